/** Promises 18 to 22, 24 and 28: signs, and what they leave. */
public final class SignsTest {
    private static final Checks CHECKS = new Checks();
    private static final int[] NO_SQUARES = {-1, 36, Integer.MIN_VALUE, Integer.MAX_VALUE};
    private static final int[] NO_KINDS = {-1, 6, Integer.MIN_VALUE, Integer.MAX_VALUE};

    private static void due(String call, long got, long want) {
        CHECKS.due(call, got, want);
    }

    public static void main(String[] args) {
        promise18();
        promise19();
        promise20();
        promise21();
        promise22();
        promise24();
        promise28();
        CHECKS.end();
    }

    private static void promise18() {
        HeWreckedHimself x = new HeWreckedHimself();
        due("days tell most", x.tellsMost(), 0);
        Checks.tell(x, "l00350;l01011;l06061;");
        due("rows tell 1 from 6", x.tellsMost(), 2);
        Checks.tell(x, "l00350;l01011;l02021;");
        due("days tell 1 from 2, first of several", x.tellsMost(), 0);
        Checks.tell(x, "l00350;");
        due("none left", x.tellsMost(), -9);
        x = Checks.told("l00350;l01011;l06061;ks02;ks07;");
        due("rows before sand", x.tellsMost(), 2);
        x = Checks.told("h07;l00350;l01011;l13131;l06061;ks12;");
        due("sand, ports and rows in their order", x.tellsMost(), 2);
    }

    private static void promise19() {
        HeWreckedHimself x = new HeWreckedHimself();
        int[] sums = {146, 721, 216, 216, 1296, 1296};
        for (int kind = 0; kind < 6; kind++) due("leftBy(" + kind + ")", x.leftBy(kind), sums[kind]);
        for (int no : NO_KINDS) due("leftBy of none", x.leftBy(no), -2);
        Checks.tell(x, "l00350;l01013;l06062;l07074;");
        due("days", x.leftBy(0), 3 * 2 + 2 * 2 + 4);
        due("bread", x.leftBy(1), 3 * 2 + 2 * 2 + 4 * 3);
        due("rows", x.leftBy(2), 3 + 2 * 2 + 4 * 2);
        x.turnTo(7, 1);
        due("all, if none is true", x.leftBy(0), 3 * 2 + 2 * 2 + 4 * 3);
        due("all, if none is true of bread", x.leftBy(1), 3 * 2 + 2 * 2 + 4 * 3);
        due("sand", x.leftBy(4), 3 * 2 + 2 * 2 + 4);
        x.turnTo(1, 5);
        due("port", x.leftBy(5), 3 + 2 + 4);
        Checks.tell(x, "l00350;");
        due("none left", x.leftBy(0), 0);
    }

    private static void promise20() {
        HeWreckedHimself x = new HeWreckedHimself();
        due("days", x.lie(0, 0), 5);
        due("days of 5 away", x.lie(0, 5), 4);
        due("bread", x.lie(1, 35), 9);
        due("bread of home", x.lie(1, 0), -9);
        due("row", x.lie(2, 0), 1);
        due("sand", x.lie(4, 0), -9);
        due("port", x.lie(5, 0), -9);
        for (int no : NO_KINDS) due("lie of no kind", x.lie(no, 99), -2);
        for (int no : NO_SQUARES) due("lie of no square", x.lie(0, no), -1);
        x.make(20, 2);
        due("weight", x.lie(2, 0), 3);
        x.make(0, 0);
        due("a square that isn't left, too", x.lie(2, 0), 3);
        x = Checks.told("ks07;");
        due("of a shoal no days are true", x.lie(1, 7), 10);
        due("sand of a shoal", x.lie(4, 1), 0);
        Checks.tell(x, "l00350;");
        due("no weight", x.lie(2, 0), -9);
        // A snake of reefs, each three days: its end is more than 40 days away, and no lie goes so far.
        x = Checks.told("d32;vr0035;vs0610;vs1923;vs3034;l12124;l24249;");
        due("12 away", x.known(0, 12), 36);
        due("24 away", x.known(0, 24), 42);
        due("35 away", x.known(0, 35), 60);
        due("days, 40 at most", x.lie(0, 35), 36);
        due("bread, 40 at most", x.lie(1, 35), 39);
        x = Checks.told("vf0035;vs0610;vs1923;vs3034;l35359;");
        due("40 away", x.known(0, 35), 40);
        due("a lie of 40 days", x.lie(0, 0), 40);
    }

    private static void promise21() {
        HeWreckedHimself x = Checks.told("ks07;kr14;kp35;kp09;kf01;");
        due("days", x.known(0, 2), 3);
        due("bread", x.known(1, 2), 3);
        due("row", x.known(2, 35), 5);
        due("column", x.known(3, 34), 4);
        due("sand with a reef", x.known(4, 8), 2);
        due("sand alone", x.known(4, 7), 0);
        due("steps to a port", x.known(5, 7), 2);
        due("steps of a port", x.known(5, 35), 0);
        due("days of a shoal", x.known(0, 7), -9);
        due("bread of a reef", x.known(1, 14), -9);
        due("row of a shoal", x.known(2, 7), 1);
        x.set(1, 3);
        due("sand counts a reef by draught 3", x.known(4, 8), 2);
        due("days of a reef by draught 3", x.known(0, 14), 6);
        for (int no : NO_KINDS) due("no kind", x.known(no, 99), -2);
        for (int no : NO_SQUARES) due("no square", x.known(0, no), -1);
        x = new HeWreckedHimself();
        due("no ports", x.known(5, 0), -9);
        x = Checks.told("vs1217;h35;");
        due("can't come", x.known(0, 0), -9);
    }

    private static void promise22() {
        HeWreckedHimself x = new HeWreckedHimself();
        due("home by its days", x.needed(0), 1);
        due("8 by days and row", x.needed(8), 5);
        due("35 by its days", x.needed(35), 1);
        x.make(8, 0);
        due("not left", x.needed(8), -3);
        for (int no : NO_SQUARES) due("no square", x.needed(no), -1);
        Checks.tell(x, "l00350;l08081;");
        due("alone with none", x.needed(8), 0);
        x.make(7, 1);
        due("7 by bread and days: the least", x.needed(7), 1);
        x.make(13, 1);
        due("8 by its column", x.needed(8), 8);
        due("13 by its row", x.needed(13), 4);
        due("7 by its days", x.needed(7), 1);
        x = Checks.told("ks08;");
        due("a shoal by row and column", x.needed(8), 12);
        x = Checks.told("l00350;l01011;l06061;kp01;");
        due("row before port", x.needed(6), 4);
        x = Checks.told("vs0135;l00350;l20201;l21211;");
        due("no days, so column", x.needed(20), 8);
    }

    private static void promise24() {
        HeWreckedHimself x = new HeWreckedHimself();
        due("days of 5", x.hide(0), 5);
        due("how many others", x.hide(1), 5);
        due("hide(2)", x.hide(2), -2);
        due("hide(-1)", x.hide(-1), -2);
        x.make(5, 0);
        due("the least left", x.hide(0), 4);
        due("others left", x.hide(1), 4);
        Checks.tell(x, "l00350;l08089;");
        due("one left", x.hide(0), 8);
        due("one left", x.hide(1), 0);
        Checks.tell(x, "l00350;");
        due("none left", x.hide(0), -9);
        due("none left", x.hide(1), -9);
        x = Checks.told("ks35;l00350;l04041;l09091;l29291;l34341;l01011;");
        due("sand, too", x.hide(0), 4);
        due("sand, too", x.hide(1), 1);
        x = Checks.told("h35;ks01;ks06;ks04;ks11;l01040;l06340;");
        due("square 0 is like 5", x.hide(0), 0);
        due("square 0 is like 5", x.hide(1), 1);
        x = Checks.told("vs0135;l00350;l14151;l20221;");
        due("no days are alike", x.hide(1), 4);
        due("no days are alike", x.hide(0), 14);
    }

    private static void promise28() {
        HeWreckedHimself x = new HeWreckedHimself();
        due("nothing told", x.fits(0), 36);
        due("nothing told", x.fits(1), 0);
        Checks.rowOf(x, 0, 3, 2, 1);
        due("two signs", x.fits(0), 1);
        due("two signs", x.fits(1), 8);
        Checks.rowOf(x, 1, 3);
        due("bread", x.fits(0), 10);
        x.make(0, 0);
        due("left alone", x.fits(0), 9);
        due("the least left", x.fits(1), 1);
        Checks.rowOf(x, 2, 7);
        due("none", x.fits(0), 0);
        due("none", x.fits(1), -9);
        due("fits(2)", x.fits(2), -2);
        due("fits(-1)", x.fits(-1), -2);
        Checks.rowOf(x, 2, 1, 3);
        due("no twos", x.fits(0), -3);
        due("what before twos", x.fits(2), -2);
        Checks.rowOf(x, 2, 1, 6, 1);
        due("no kind", x.fits(0), -3);
        Checks.rowOf(x, 2, 1, 5, 1);
        due("no port", x.fits(0), 0);
        due("the row stays", x.count(8), 4);
        Checks.rowOf(x, 2, 1, 2, 1, 2, 1, 2, 1, 2, 1, 2, 1, 2, 1, 3, 5);
        due("eight signs", x.fits(1), 11);
    }
}
