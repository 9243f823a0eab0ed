/** Promises 9 to 17, 23, 25, 27 and 30: days and what follows from them. */
public final class WaysTest {
    private static final Checks CHECKS = new Checks();
    private static final int[] NO_SQUARES = {-1, 36, Integer.MIN_VALUE, Integer.MAX_VALUE};

    private static void due(String call, long got, long want) {
        CHECKS.due(call, got, want);
    }

    public static void main(String[] args) {
        promise9();
        promise10();
        promise11And12();
        promise13();
        promise14();
        promise15();
        promise16();
        promise17();
        promise23();
        promise25();
        promise27();
        promise30();
        CHECKS.end();
    }

    private static void promise9() {
        HeWreckedHimself x = new HeWreckedHimself();
        due("open", x.days(0, 35), 10);
        due("nowhere", x.days(7, 7), 0);
        for (int no : NO_SQUARES) {
            due("days from none", x.days(no, 0), -1);
            due("days to none", x.days(0, no), -1);
        }
        // A corridor of one column: fog, reef, current and port cost what they do by each way.
        x = Checks.told("d32;vs0105;ks07;ks13;ks19;ks25;ks31;kf06;kr12;kc18;kp24;");
        due("down the column", x.days(0, 30), 2 + 3 + 1 + 1 + 1);
        due("up the column", x.days(30, 0), 1 + 3 + 3 + 2 + 1);
        due("to a shoal", x.days(0, 1), -9);
        due("from a shoal", x.days(1, 0), -9);
        due("from a shoal to itself", x.days(1, 1), -9);
        due("behind shoals", x.days(0, 8), -9);
        x.set(1, 4);
        due("a reef by draught 4", x.days(0, 30), -9);
        x = Checks.told("kc01;kc07;");
        due("current by right", x.days(0, 1), 1);
        due("current by left", x.days(2, 1), 1);
        due("current by down", x.days(1, 7), 1);
        due("current by up", x.days(7, 1), 3);
        due("round a current", x.days(13, 7), 3);
    }

    private static void promise10() {
        HeWreckedHimself x = new HeWreckedHimself();
        due("up first", x.way(35, 0), 0);
        due("left before down", x.way(5, 30), 1);
        due("right before down", x.way(0, 35), 2);
        due("down", x.way(0, 30), 3);
        due("one square on", x.way(0, 1), 2);
        due("one square up", x.way(6, 0), 0);
        due("none to itself", x.way(3, 3), -9);
        for (int no : NO_SQUARES) {
            due("way from none", x.way(no, 0), -1);
            due("way to none", x.way(0, no), -1);
        }
        x.turnTo(29, 4);
        due("not up by a current", x.way(35, 22), 1);
        x.turnTo(1, 1);
        due("round a shoal", x.way(0, 2), 3);
        due("from a shoal", x.way(1, 0), -9);
        due("to a shoal", x.way(0, 1), -9);
    }

    private static void promise11And12() {
        HeWreckedHimself x = new HeWreckedHimself();
        due("no fog", x.shake(7), -9);
        due("no fog, led", x.led(7), -9);
        x.turnTo(1, 3);
        due("the fog itself", x.shake(1), 2 + 1 + 2);
        due("a turn in it", x.shake(7), 3);
        due("led by it", x.led(7), 1);
        due("straight on is no turn", x.shake(2), 5);
        due("up out of fog", Checks.told("kf07;").shake(1), 1 + 2 + 1);
        due("up into fog", Checks.told("h12;kf06;").shake(7), 2 + 1);
        due("back is one", x.shake(0), 3);
        due("led back", x.led(0), 3);
        for (int no : NO_SQUARES) {
            due("shake to none", x.shake(no), -1);
            due("led to none", x.led(no), -1);
        }
        x = Checks.told("kf00;vs0611;");
        due("home in fog: he must come to it", x.shake(1), 1 + 2 + 1);
        x = Checks.told("kf01;kf02;vs0611;");
        due("back in a corridor of fog", x.shake(5), 2 + 1 + 2 + 2 + 1 + 1 + 1);
        due("to a shoal", x.shake(6), -9);
        due("led to a shoal", x.led(6), -9);
        due("behind shoals", x.shake(12), -9);
        x = Checks.told("ks01;ks06;kf00;kf35;");
        due("shut in", x.shake(0), -9);
    }

    private static void promise13() {
        HeWreckedHimself x = new HeWreckedHimself();
        due("no shoal", x.wreck(0), -9);
        due("no shoal", x.wreck(1), -9);
        due("wreck(2)", x.wreck(2), -2);
        due("wreck(-1)", x.wreck(-1), -2);
        x.turnTo(14, 1);
        due("days", x.wreck(0), 3);
        due("the least of them", x.wreck(1), 8);
        x.turnTo(14, 2);
        due("a reef wrecks by draught 4", x.wreck(0), 3);
        x.set(1, 3);
        due("a reef is sailed by draught 3", x.wreck(0), -9);
        due("a reef is sailed by draught 3", x.wreck(1), -9);
        x = Checks.told("kf08;ks14;");
        due("not by fog", x.wreck(1), 13);
        x = Checks.told("ks01;");
        due("at home", x.wreck(0), 0);
        due("at home", x.wreck(1), 0);
        x = Checks.told("h01;ks00;");
        due("home beside square 0", x.wreck(1), 1);
    }

    private static void promise14() {
        HeWreckedHimself x = new HeWreckedHimself();
        due("no shoal", x.pay(0), -9);
        due("no shoal", x.pay(1), -9);
        due("pay(2)", x.pay(2), -2);
        due("pay(-1)", x.pay(-1), -2);
        x.turnTo(14, 1);
        due("pay", x.pay(0), 30 + 20 - 3);
        due("worth it", x.pay(1), 1);
        Checks.tell(x, "l00350;l00001;c3047;");
        due("as much is not more", x.pay(1), 0);
        x.set(4, 48);
        due("more", x.pay(1), 1);
        x = Checks.told("ks35;h00;d41;c0000;vf0034;");
        due("cheap days", x.pay(0), 0);
        due("a pay of 0 is worth it", x.set(4, 1) * 0 + x.pay(1), 1);
        x.set(4, 0);
        due("a secret of 0 is not", x.pay(1), 0);
    }

    private static void promise15() {
        HeWreckedHimself x = new HeWreckedHimself();
        due("home", x.found(0), 0);
        due("1", x.found(1), 1);
        due("6 behind 1", x.found(6), 2 + 1);
        due("2 behind both", x.found(2), 4 + 2);
        x.make(1, 0);
        due("not left", x.found(1), -3);
        due("6 is first then", x.found(6), 1);
        for (int no : NO_SQUARES) due("found none", x.found(no), -1);
        x = Checks.told("ks01;ks06;kc13;h12;");
        due("a shoal left", x.found(1), -9);
        due("behind shoals", x.found(0), -9);
        due("13 before 18", x.found(13), 1);
        due("back in as many days", x.found(18), 3);
    }

    private static void promise16() {
        HeWreckedHimself x = new HeWreckedHimself();
        due("mean(2)", x.mean(2), 4000000000000000002L);
        due("mean(-1)", x.mean(-1), 4000000000000000002L);
        Checks.tell(x, "l00350;");
        due("none left", x.mean(0), 0);
        due("none left", x.mean(1), 1);
        x.make(0, 7);
        due("home alone", x.mean(0), 0);
        due("home alone", x.mean(1), 1);
        x.make(1, 3);
        x.make(6, 2);
        due("0, 1 and 3 by 7, 3, 2", x.mean(0), 3);
        due("in least terms", x.mean(1), 4);
        x.turnTo(6, 1);
        due("who can't be come to does not count", x.mean(0), 3);
        due("who can't be come to does not count", x.mean(1), 10);
        Checks.tell(x, "l00350;l02021;");
        due("2 alone by 1", x.mean(0), 2);
        due("2 alone by 1", x.mean(1), 1);
        Checks.tell(x, "l00350;l06069;");
        due("none can be come to", x.mean(0), 0);
        due("none can be come to", x.mean(1), 1);
    }

    private static void promise17() {
        HeWreckedHimself x = new HeWreckedHimself();
        due("home", x.look(), 0);
        x.make(0, 0);
        due("the least of 1 and 6", x.look(), 1);
        x.make(35, 6);
        due("6 by 11 is more than 1 by 2", x.look(), 35);
        x.make(35, 5);
        due("5 by 11 is less", x.look(), 1);
        Checks.tell(x, "l00350;l01012;l02023;");
        due("2 by 2 and 3 by 3: the least", x.look(), 1);
        Checks.tell(x, "l00350;");
        due("none left", x.look(), -9);
        x = Checks.told("ks01;l00350;l01019;");
        due("none to come to", x.look(), -9);
        x.make(35, 1);
        due("the one to come to", x.look(), 35);
    }

    private static void promise23() {
        HeWreckedHimself x = Checks.told("ks01;ks06;");
        due("first", x.rivals(14, 35, 15), 0);
        due("other", x.rivals(14, 35, 28), 1);
        due("at once", x.rivals(14, 14, 28), 2);
        due("neither", x.rivals(14, 35, 0), -9);
        due("the first alone", x.rivals(0, 35, 0), 0);
        due("the other alone", x.rivals(1, 35, 35), 1);
        for (int no : NO_SQUARES) {
            due("rivals of none", x.rivals(no, 0, 0), -1);
            due("rivals of none", x.rivals(0, no, 0), -1);
            due("rivals of none", x.rivals(0, 0, no), -1);
        }
        x = Checks.told("kc07;");
        due("a current is slow up", x.rivals(13, 1, 7), 1);
    }

    private static void promise25() {
        HeWreckedHimself x = new HeWreckedHimself();
        due("open", x.close(0), 14);
        due("open", x.close(1), 13);
        due("close(2)", x.close(2), -2);
        due("close(-1)", x.close(-1), -2);
        x.set(2, 9);
        due("all but none by 9", x.close(1), 36);
        due("the least by 9", x.close(0), 1);
        x = Checks.told("vs0135;");
        due("home alone", x.close(0), 0);
        due("home alone", x.close(1), 1);
        x = Checks.told("h35;vs0033;d41;");
        due("two squares", x.close(0), 34);
        due("two squares", x.close(1), 2);
    }

    private static void dueJudged(String when, HeWreckedHimself x, int... want) {
        for (int what = 0; what < 4; what++) due(when + ", judge(" + what + ")", x.judge(what), want[what]);
    }

    private static void promise27() {
        HeWreckedHimself x = Checks.told("kf01;ks13;h00;");
        dueJudged("empty", x, -9, 0, 0, 0);
        Checks.rowOf(x, 2, 2, 3);
        dueJudged("straight through fog", x, -9, 8, 4, 0);
        Checks.rowOf(x, 2, 3);
        dueJudged("a turn in fog", x, -9, 7, 3, 1);
        Checks.rowOf(x, 2, 1);
        dueJudged("back in fog", x, -9, 0, 3, 1);
        Checks.rowOf(x, 2, 3, 3, 2);
        dueJudged("a shoal", x, 2, 7, 3, 1);
        Checks.rowOf(x, 2, 0, 3);
        dueJudged("off the sea in fog", x, 1, 1, 2, 0);
        Checks.rowOf(x, 1);
        dueJudged("off the sea at once", x, 0, 0, 0, 0);
        Checks.rowOf(x, 3, 3, 4);
        dueJudged("no way", x, 2, 12, 2, 0);
        Checks.rowOf(x, 3, 99);
        dueJudged("no way at all", x, 1, 6, 1, 0);
        due("the row stays", x.count(8), 2);
        due("judge(-1)", x.judge(-1), -2);
        due("judge(4)", x.judge(4), -2);
        x = Checks.told("kc01;kf00;h00;d32;kr02;");
        Checks.rowOf(x, 2, 2, 3, 1, 0);
        dueJudged("current up, reef", x, -9, 1, 1 + 3 + 1 + 1 + 3, 0);
        Checks.rowOf(x, 2, 1, 3);
        dueJudged("home in fog, come to again", x, -9, 6, 1 + 2 + 1, 1);
    }

    private static void promise30() {
        HeWreckedHimself x = new HeWreckedHimself();
        due("lots(5, 7, 0)", x.lots(5, 7, 0), 1402);
        due("lots(5, 7, 1)", x.lots(5, 7, 1), 313);
        due("lots(0, 0, 9)", x.lots(0, 0, 9), -4);
        due("lots(21, 0, 9)", x.lots(21, 0, 9), -6);
        due("lots(20, 0, 2)", x.lots(20, 0, 2), -2);
        due("lots(20, 0, -1)", x.lots(20, 0, -1), -2);
        Checks.tell(x, "l00350;l00001;");
        due("home by a weight of 1", x.lots(20, 3, 0), 0);
        due("home by a weight of 1", x.lots(20, 3, 1), 0);
        Checks.tell(x, "l00350;l06069;");
        due("one square", x.lots(20, -5, 0), 20);
        due("one square", x.lots(20, -5, 1), 1);
        x.turnTo(6, 1);
        due("one that can't be come to", x.lots(20, 11, 0), 20 * 99);
        due("one that can't be come to", x.lots(1, 11, 1), 99);
        x.make(6, 0);
        due("none left", x.lots(1, 1, 0), -3);
        due("none left, refused", x.count(13), 1);
        // z = 0 becomes 1013904223: 3960563 by the day's 256, cut, and that modulo 2 is 1.
        x = Checks.told("l00350;l00001;l01011;");
        due("a draw of 1", x.lots(1, 0, 0), 1);
    }
}
