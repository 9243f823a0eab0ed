/** Promises 1 to 8 and 26, 29, 31 to 33: what an object keeps, and how it is changed. */
public final class SeaTest {
    private static final Checks CHECKS = new Checks();

    private static void due(String call, long got, long want) {
        CHECKS.due(call, got, want);
    }

    private static void dueCounts(String when, HeWreckedHimself x, int... want) {
        for (int what = 0; what < want.length; what++) {
            due(when + ", count(" + what + ")", x.count(what), want[what]);
        }
    }

    public static void main(String[] args) {
        promise1();
        promise2();
        promise3Forms();
        promise3Statements();
        promise3Faults();
        promise3NothingComes();
        promise4();
        promise5();
        promise6();
        promise7();
        promise8();
        promise26And29();
        promise31And32();
        promise33();
        CHECKS.end();
    }

    private static void promise1() {
        HeWreckedHimself x = new HeWreckedHimself();
        for (int square = 0; square < 36; square++) {
            due("new: kind of " + square, x.square(square, 0), 0);
            due("new: can be on " + square, x.square(square, 1), 1);
            due("new: likely " + square, x.square(square, 2), 1);
        }
        dueCounts("new", x, 36, 36, 0, 4, 2, 30, 9, 36, 0, 0, -9, 0, 0, 0, 0, 0, 0, -9);
        due("new: on", x.on(), -3);
    }

    private static void promise2() {
        HeWreckedHimself x = new HeWreckedHimself();
        due("letter(-1)", x.letter(-1), -4);
        due("letter(MIN)", x.letter(Integer.MIN_VALUE), -4);
        due("letter(256)", x.letter(256), -6);
        due("letter(MAX)", x.letter(Integer.MAX_VALUE), -6);
        due("letter(0)", x.letter(0), 1);
        due("letter(255)", x.letter(255), 2);
        for (int i = 3; i <= 96; i++) due("letter " + i, x.letter('k'), i);
        due("97th letter", x.letter('k'), -6);
        due("97th letter below", x.letter(-1), -4);
        due("97th letter above", x.letter(256), -6);
        due("letters", x.count(9), 96);
        due("refused -4", x.count(14), 3);
        due("refused -6", x.count(16), 4);
        due("sea of a letter 0", x.sea(), -1000);
        due("letters behind the sea", x.count(9), 0);
        due("letter behind the sea", x.letter('k'), 1);
    }

    private static void promise3Forms() {
        String[] texts = {"", "x", "k", "ko", "ko0", "ko00", "ko00,", "K", "kx", "ko;", "ko0x", "ko000;", "ko00;x",
            "ko00;k", "ko00;;", "v", "vo0", "vo001", "vo0001", "vo00010;", "vb0001;", "l", "l0", "l00051", "l0005;",
            "l000511;", "h", "h0", "h1;", "h100;", "d", "d4;", "d444;", "dd;", "c", "c123;", "c12345;", "s", "sd0;",
            "sx00;", "so00;", "sd000;", "ko00;h00;d45;c1234;l00359;sd01;z", "ko99;h", " ko00;"};
        int[] places = {0, 0, 1, 2, 3, 4, 4, 0, 1, 2, 3, 4, 5,
            6, 5, 1, 3, 5, 6, 6, 1, 1, 2, 6, 5,
            6, 1, 2, 2, 3, 1, 2, 3, 1, 1, 4, 5, 1, 3,
            1, 1, 4, 31, 6, 0};
        for (int i = 0; i < texts.length; i++) {
            HeWreckedHimself x = new HeWreckedHimself();
            due("sea of '" + texts[i] + "'", Checks.tell(x, texts[i]), -1000 - places[i]);
            due("letters behind '" + texts[i] + "'", x.count(9), 0);
            due("no refusal of '" + texts[i] + "'", x.count(11) + x.count(12) + x.count(13) + x.count(14) + x.count(16), 0);
        }
        StringBuilder full = new StringBuilder();
        for (int i = 0; i < 19; i++) full.append("ko05;");
        due("95 letters", Checks.tell(new HeWreckedHimself(), full.toString()), 19);
        due("96 letters", Checks.tell(new HeWreckedHimself(), full + "k"), -1096);
        due("24 statements", Checks.tell(new HeWreckedHimself(), "h01;".repeat(24)), 24);
        HeWreckedHimself x = new HeWreckedHimself();
        x.letter('h' + 256);
        due("no letter, no statement", x.sea(), -1000);
        x.letter('k');
        x.letter(240);
        due("a letter above 127", x.sea(), -1001);
    }

    private static void promise3Statements() {
        HeWreckedHimself x = Checks.told("ks01;kr02;kf03;kc04;kp05;");
        for (int kind = 0; kind < 6; kind++) due("kind of " + kind, x.square(kind, 0), kind);
        due("over again", Checks.tell(x, "vo0205;"), 1);
        int[] kinds = {0, 1, 0, 0, 0, 0, 0};
        for (int i = 0; i < kinds.length; i++) due("told over, kind of " + i, x.square(i, 0), kinds[i]);
        x = Checks.told("l07103;l35359;");
        due("likely 6", x.square(6, 2), 1);
        due("likely 7", x.square(7, 2), 3);
        due("likely 10", x.square(10, 2), 3);
        due("likely 11", x.square(11, 2), 1);
        due("likely 35", x.square(35, 2), 9);
        x = Checks.told("h35;d19;c0099;");
        dueCounts("told numbers", x, 36, 36, 35, 1, 9, 0, 99);
        x = Checks.told("c9900;d91;");
        dueCounts("told other numbers", x, 36, 36, 0, 9, 1, 99, 0);
        x = Checks.told("sd02;");
        due("sign d", x.count(0), 3);
        due("sign d, 1", x.square(1, 2), 0);
        due("sign d, 7", x.square(7, 2), 1);
        due("sign b", Checks.told("sb02;").count(0), 6);
        due("sign r", Checks.told("sr05;").count(0), 6);
        due("sign c", Checks.told("sc00;").count(0), 6);
        due("sign s", Checks.told("ks07;ss01;").count(0), 4);
        due("sign p", Checks.told("kp35;sp10;").count(0), 1);
        due("signs behind a home", Checks.told("h35;sd10;").square(0, 2), 1);
        due("signs by one another", Checks.told("sr01;sc01;").count(1), 1);
        due("reef under home by its draught", Checks.tell(new HeWreckedHimself(), "d32;kr00;"), 2);
        due("home put away", Checks.tell(new HeWreckedHimself(), "h01;ks00;"), 2);
        due("nothing likely is a sea", Checks.tell(new HeWreckedHimself(), "l00350;"), 1);
        due("the order within a range", Checks.tell(new HeWreckedHimself(), "vf0707;"), 1);
    }

    private static void promise3Faults() {
        String[] texts = {"ko36;", "ko99;", "vo0036;", "vo3600;", "vo0504;", "l00361;", "l05041;", "h36;", "h99;",
            "ks00;", "kr00;", "vs0035;", "vr0001;", "d04;", "d40;", "d00;", "ks01;h01;", "kr01;h01;", "d32;kr00;d42;",
            "sd40;", "sr06;", "sc06;", "ss01;", "ss05;", "sp00;", "l00350;sb99;", "sr00;sr01;", "h05;ko36;", "d32;kr00;kr01;d41;",
            "ks01;ks06;sd01;", "kp00;sp11;", "h07;h01;ks01;"};
        int[] places = {0, 0, 0, 0, 0, 0, 0, 0, 0,
            0, 0, 0, 0, 0, 0, 0, 5, 5, 9,
            0, 0, 0, 0, 0, 0, 7, 5, 4, 14,
            10, 5, 8};
        for (int i = 0; i < texts.length; i++) {
            HeWreckedHimself x = new HeWreckedHimself();
            due("sea of '" + texts[i] + "'", Checks.tell(x, texts[i]), -2000 - places[i]);
            due("letters behind '" + texts[i] + "'", x.count(9), 0);
        }
        due("a fault of form comes first", Checks.tell(new HeWreckedHimself(), "ko36;x"), -1005);
    }

    private static void promise3NothingComes() {
        HeWreckedHimself x = new HeWreckedHimself();
        x.row(3);
        due("with a fault", Checks.tell(x, "h01;d11;c0101;ks02;l03070;sr05;h02;"), -2031);
        dueCounts("with a fault", x, 36, 36, 0, 4, 2, 30, 9, 36, 1, 0, -9, 0, 0, 0, 0, 0, 0);
        due("with a fault, kind", x.square(2, 0), 0);
        due("with a fault of form", Checks.tell(x, "h01;d11;c0101;ks02;l03070;q"), -1026);
        dueCounts("with a fault of form", x, 36, 36, 0, 4, 2, 30, 9, 36, 1, 0);
        due("without", Checks.tell(x, "h01;d11;c0101;ks02;l03070;sr05;"), 6);
        dueCounts("without", x, 6, 6, 1, 1, 1, 1, 1, 35, 1, 0);
    }

    private static void promise4() {
        HeWreckedHimself x = Checks.told("ks01;kr02;kf03;kc04;kp05;l06069;");
        int[] can = {1, 0, 0, 1, 1, 1};
        for (int i = 0; i < 6; i++) {
            due("square(" + i + ", 0)", x.square(i, 0), i);
            due("square(" + i + ", 1)", x.square(i, 1), can[i]);
        }
        due("square(6, 2)", x.square(6, 2), 9);
        x.set(1, 3);
        due("a reef by draught 3", x.square(2, 1), 1);
        due("a shoal by draught 3", x.square(1, 1), 0);
        due("square(-1, 0)", x.square(-1, 0), -1);
        due("square(36, 9)", x.square(36, 9), -1);
        due("square(0, -1)", x.square(0, -1), -2);
        due("square(0, 3)", x.square(0, 3), -2);
        due("nobody", x.count(11), 2);
        due("other", x.count(12), 2);
    }

    private static void promise5() {
        HeWreckedHimself x = new HeWreckedHimself();
        due("turnTo(35, 5)", x.turnTo(35, 5), 0);
        due("turnTo(35, 1)", x.turnTo(35, 1), 5);
        due("turnTo(35, 1) again", x.turnTo(35, 1), 1);
        due("kind", x.square(35, 0), 1);
        due("turnTo(-1, 7)", x.turnTo(-1, 7), -1);
        due("turnTo(36, 0)", x.turnTo(36, 0), -1);
        due("turnTo(0, -1)", x.turnTo(0, -1), -2);
        due("turnTo(0, 6)", x.turnTo(0, 6), -2);
        due("shoal at home", x.turnTo(0, 1), -3);
        due("reef at home", x.turnTo(0, 2), -3);
        due("fog at home", x.turnTo(0, 3), 0);
        x.set(1, 3);
        due("reef at home by draught 3", x.turnTo(0, 2), 3);
        due("shoal at home by draught 3", x.turnTo(0, 1), -3);
        due("home's kind", x.square(0, 0), 2);
        due("likely stays", x.square(35, 2), 1);
        due("state refused", x.count(13), 3);
    }

    private static void promise6() {
        HeWreckedHimself x = new HeWreckedHimself();
        due("make(4, 9)", x.make(4, 9), 1);
        due("make(4, 0)", x.make(4, 0), 9);
        due("left", x.count(0), 35);
        due("make(4, 3)", x.make(4, 3), 0);
        due("weight", x.count(1), 38);
        due("make(-1, -1)", x.make(-1, -1), -1);
        due("make(36, 1)", x.make(36, 1), -1);
        due("make(4, -1)", x.make(4, -1), -4);
        due("make(4, 10)", x.make(4, 10), -6);
        due("likely", x.square(4, 2), 3);
        x.turnTo(4, 1);
        due("a shoal may be likely", x.make(4, 5), 3);
    }

    private static void promise7() {
        HeWreckedHimself x = new HeWreckedHimself();
        int[] first = {0, 4, 2, 30, 9};
        int[] least = {0, 1, 1, 0, 0};
        int[] greatest = {35, 9, 9, 99, 99};
        for (int what = 0; what < 5; what++) {
            due("set(" + what + ", greatest)", x.set(what, greatest[what]), first[what]);
            due("set(" + what + ", least)", x.set(what, least[what]), greatest[what]);
            due("set(" + what + ", below)", x.set(what, least[what] - 1), what == 0 ? -1 : -4);
            due("set(" + what + ", above)", x.set(what, greatest[what] + 1), what == 0 ? -1 : -6);
            due("count", x.count(2 + what), least[what]);
        }
        due("set(-1, 0)", x.set(-1, 0), -2);
        due("set(5, 0)", x.set(5, 0), -2);
        x.turnTo(7, 1);
        x.turnTo(8, 2);
        due("home on a shoal", x.set(0, 7), -3);
        due("home on a reef by draught 1", x.set(0, 8), 0);
        due("draught 3", x.set(1, 3), 1);
        due("draught 4", x.set(1, 4), -3);
        due("draught 10", x.set(1, 10), -6);
        due("draught stays", x.count(3), 3);
        x.set(0, 9);
        due("draught 4 off the reef", x.set(1, 4), 3);
        due("home on a reef by draught 4", x.set(0, 8), -3);
        due("home stays", x.count(2), 9);
    }

    private static void promise8() {
        HeWreckedHimself x = new HeWreckedHimself();
        due("learn(1, 3)", x.learn(1, 3), 10);
        due("learn(0, 4)", x.learn(0, 4), -3);
        due("left as before", x.count(0), 10);
        due("learn(0, 3)", x.learn(0, 3), 4);
        due("learn(2, 1)", x.learn(2, 1), 1);
        due("learn(3, 2)", x.learn(3, 2), 1);
        due("which", x.square(8, 2), 1);
        due("learn(0, 0)", new HeWreckedHimself().learn(0, 0), 1);
        due("learn(2, 0)", new HeWreckedHimself().learn(2, 0), 6);
        due("learn(-1, -1)", x.learn(-1, -1), -2);
        due("learn(6, 0)", x.learn(6, 0), -2);
        due("learn(0, -1)", x.learn(0, -1), -4);
        due("learn(1, 100)", x.learn(1, 100), -6);
        due("learn(1, 99)", x.learn(1, 99), 1);
        x = Checks.told("ks07;kr14;kp35;l07079;");
        due("sand 2", x.learn(4, 2), 2);
        due("its squares", x.square(8, 2) + 10 * x.square(13, 2), 11);
        x = Checks.told("ks07;kp35;kp00;l07079;");
        due("port 2", x.learn(5, 2), 6);
        due("its shoal", x.square(7, 2), 9);
        due("no days to a shoal", Checks.told("ks07;l00350;l07079;").learn(1, 99), -3);
        due("no days where he can't come", Checks.told("vs1217;l00350;l18359;").learn(1, 99), -3);
    }

    private static void promise26And29() {
        HeWreckedHimself x = new HeWreckedHimself();
        due("clear of none", x.clear(), 0);
        due("row(-1)", x.row(-1), -4);
        due("row(100)", x.row(100), -6);
        for (int i = 1; i <= 16; i++) due("row", x.row(i == 1 ? 0 : 99), i);
        due("row 17", x.row(0), -6);
        due("row 17 below", x.row(-1), -4);
        due("in the row", x.count(8), 16);
        due("clear", x.clear(), 16);
        due("in the row", x.count(8), 0);
        due("row behind", x.row(5), 1);
        Checks.tell(x, "h01;");
        due("a sea leaves the row", x.count(8), 1);
    }

    private static void promise31And32() {
        HeWreckedHimself x = Checks.told("ks01;l02020;c1122;d35;h06;");
        due("on before", x.on(), -3);
        due("image", x.image(), 35);
        Checks.tell(x, "vo0001;vf2021;l00359;h35;d77;c0000;sr02;");
        x.row(7);
        x.letter('k');
        due("left between", x.count(0), 6);
        due("on", x.on(), 35);
        dueCounts("on", x, 35, 35, 6, 3, 5, 11, 22, 35, 1, 1, -9, 0, 0, 1, 0, 0, 0);
        due("kind then", x.square(1, 0), 1);
        due("kind then", x.square(20, 0), 0);
        x.make(9, 0);
        due("the image stays", x.on(), 35);
        x.make(9, 0);
        due("a newer image", x.image(), 34);
        x.make(9, 4);
        due("on from the newer", x.on(), 34);
        due("refused stays", x.count(13), 1);
    }

    private static void promise33() {
        HeWreckedHimself x = Checks.told("vs0607;kr08;l00054;h35;d43;c5678;");
        x.row(1);
        x.letter(1);
        x.letter(1);
        x.square(36, 0);
        x.square(0, 3);
        x.square(0, 3);
        for (int i = 0; i < 3; i++) x.on();
        for (int i = 0; i < 4; i++) x.row(-1);
        for (int i = 0; i < 5; i++) x.row(100);
        dueCounts("all", x, 36, 54, 35, 4, 3, 56, 78, 33, 1, 2, -9, 1, 2, 3, 4, 0, 5, -9, -9);
        x.mean(5);
        due("a long refused", x.count(12), 3);
        due("count(-1)", x.count(-1), -9);
        due("count(MIN)", x.count(Integer.MIN_VALUE), -9);
        due("count(MAX)", x.count(Integer.MAX_VALUE), -9);
        due("-9 is no refusal", x.count(12), 3);
        x.set(1, 3);
        due("squares by draught 3", x.count(7), 34);
    }
}
