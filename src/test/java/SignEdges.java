/** Edges of signs, and of what they tell and leave. */
final class SignEdges {
    /** A snake of fog and reefs by which 29 is so many days away as its statement tells, and 35 one more. */
    private static final String SNAKE = "d32;vf0035;vs0610;vs1923;vs3034;ko35;kr01;kr02;";

    private final Document document;

    SignEdges(Document document) {
        this.document = document;
    }

    void all() {
        daysAndBread();
        rowAndColumn();
        sand();
        port();
        withoutNumber();
        learn();
        tellsMost();
        tellsMostByOrder();
        leftBy();
        lie();
        lieOfNumbers();
        known();
        needed();
        hide();
        hideWithoutDays();
    }

    private void due(String call, long got, long want) {
        document.due(call, got, want);
    }

    /** What the sign leaves of a sea. */
    private void dueLearn(String text, int kind, int n, int left) {
        HeWreckedHimself x = Checks.told(text);
        int before = x.count(0);
        due("learn(" + kind + ", " + n + ") in " + text, x.learn(kind, n), left);
        due("count(0) behind it in " + text, x.count(0), left < 0 ? before : left);
    }

    private void daysAndBread() {
        document.says("SIGNS, of which SQUARES each tells (others become LIKELY 0): d DAYS n: fewest DAYS from HOME to it are n.");
        int[] daysLeft = {1, 2, 3, 4, 5, 6, 5, 4, 3, 2, 1, -3};
        for (int n = 0; n < daysLeft.length; n++) dueLearn("h00;", 0, n, daysLeft[n]);
        HeWreckedHimself x = Checks.told("l00359;");
        x.learn(0, 9);
        for (int square = 0; square < 36; square++) {
            due("square(" + square + ", 2)", x.square(square, 2), square == 29 || square == 34 ? 9 : 0);
        }
        document.says("b BREAD n: they are n or fewer.");
        int[] breadLeft = {1, 3, 6, 10, 15, 21, 26, 30, 33, 35, 36, 36};
        for (int n = 0; n < breadLeft.length; n++) dueLearn("h00;", 1, n, breadLeft[n]);
        dueLearn("h00;", 1, 99, 36);
        dueLearn("l00000;", 1, 0, -3);
        dueLearn("l00000;", 1, 1, 2);
    }

    private void rowAndColumn() {
        document.says("r ROW n: its row.");
        for (int n = 0; n <= 6; n++) dueLearn("h35;", 2, n, n < 6 ? 6 : -3);
        dueLearn("h35;vs0005;", 2, 0, 6);
        document.says("c COLUMN n: its column.");
        for (int n = 0; n <= 6; n++) dueLearn("h35;", 3, n, n < 6 ? 6 : -3);
        HeWreckedHimself x = new HeWreckedHimself();
        x.learn(2, 5);
        x.learn(3, 5);
        due("the last row and column", x.square(35, 2), 1);
        due("one is left", x.count(0), 1);
    }

    private void sand() {
        document.says("s SAND n: just n (0 .. 4) of the SQUARES beside it are SHOAL or REEF.");
        String sea = "ks08;kr13;kr15;ks20;";
        dueLearn(sea, 4, 0, 27);
        dueLearn(sea, 4, 1, 4);
        dueLearn(sea, 4, 2, 4);
        dueLearn(sea, 4, 3, -3);
        dueLearn(sea, 4, 4, 1);
        dueLearn(sea, 4, 5, -3);
        dueLearn(sea, 4, 99, -3);
        dueLearn("h00;", 4, 0, 36);
        HeWreckedHimself x = Checks.told(sea + "d12;");
        due("four, one can come to it over reefs", x.known(4, 14), 4);
        due("days to it", x.known(0, 14), 6);
        due("fog and current are none", Checks.told("kf01;kc06;").known(4, 0), 0);
        due("a corner has two at most", Checks.told("h01;vs0235;ks00;").known(4, 35), 2);
        due("a row's end is not beside the next row", Checks.told("ks06;").known(4, 5), 0);
    }

    private void port() {
        document.says("p PORT n: STEPS (rows and columns apart together) to the nearest PORT are n.");
        dueLearn("kp00;", 5, 0, 1);
        dueLearn("kp00;", 5, 10, 1);
        dueLearn("kp00;", 5, 11, -3);
        dueLearn("kp00;kp35;", 5, 5, 6);
        dueLearn("kp00;kp35;", 5, 6, -3);
        dueLearn("vp0035;", 5, 0, 36);
        due("over shoals", Checks.told("kp35;ks34;ks29;").known(5, 28), 2);
        due("to a shoal", Checks.told("kp35;ks34;ks29;").known(5, 34), 1);
    }

    private void withoutNumber() {
        document.says("Where one can not be (or come from HOME) DAYS are none, so is PORT without PORTS.");
        HeWreckedHimself x = Checks.told("ks01;kr12;vs1823;");
        int[] none = {1, 12, 18, 24, 35};
        for (int square : none) {
            for (int kind = 0; kind < 2; kind++) due("known(" + kind + ", " + square + ")", x.known(kind, square), -9);
        }
        for (int square = 0; square < 36; square++) due("known(5, " + square + ")", x.known(5, square), -9);
        dueLearn("ks01;kr12;vs1823;", 1, 99, 16);
        dueLearn("ks01;l00350;l01019;", 1, 99, -3);
        dueLearn("ks01;l00350;l01019;", 0, 0, -3);
        dueLearn("ks01;l00350;l01019;", 2, 0, 1);
        dueLearn("h00;", 5, 0, -3);
        dueLearn("h00;", 5, 9, -3);
        due("a reef by draught 3", Checks.told("d32;kr12;").known(0, 12), 4);
    }

    private void learn() {
        document.says("`int learn(int kind, int n)`: A SIGN is LEARNT: how many are LEFT. -2; -4; -6 99; -3 nothing would be left.");
        HeWreckedHimself x = Checks.told("kp35;");
        due("learn(1, 99)", x.learn(1, 99), 36);
        due("learn(1, 100)", x.learn(1, 100), -6);
        due("learn(1, -1)", x.learn(1, -1), -4);
        due("learn(-1, 0)", x.learn(-1, 0), -2);
        due("learn(6, 0)", x.learn(6, 0), -2);
        due("learn(5, 0)", x.learn(5, 0), 1);
        due("learn(0, 0)", x.learn(0, 0), -3);
        due("learn(4, 5)", x.learn(4, 5), -3);
        due("left as before", x.count(0), 1);
        due("likely as before", x.square(35, 2), 1);
        due("what is so already", x.learn(0, 10), 1);
        x.make(35, 0);
        due("nothing left before", x.learn(1, 99), -3);
    }

    private void dueTellsMost(String text, int kind) {
        due("tellsMost() of " + text, Checks.told(text).tellsMost(), kind);
    }

    private void tellsMost() {
        document.says("TELLS MOST: of KINDS of SIGNS (0 d, 1 b, 2 r, 3 c, 4 s, 5 p) that by which fewest are left on the mean: "
            + "the sum, over SQUARES LEFT, of LIKELY times how many would be left by the SIGN that is true of it "
            + "(all, if none is): least, of several the first; -9 none LEFT; that sum for a KIND.");
        document.says("`int tellsMost()`: TELLS MOST; -9.");
        dueTellsMost("l00350;", -9);
        dueTellsMost("l00350;l00009;", 0);
        dueTellsMost("l00350;l35359;ks35;", 0);
        due("REFUSALS by -9", Checks.told("l00350;").count(13), 0);
    }

    /** Two squares that signs of one kind tell apart, and of no kind ahead of it. */
    private void tellsMostByOrder() {
        dueTellsMost("l00350;l07071;l08081;", 0);
        dueTellsMost("l00350;l01011;l06061;", 2);
        dueTellsMost("l00350;l01011;l06061;ks02;", 2);
        dueTellsMost("h35;vs0034;l00350;l00011;", 3);
        dueTellsMost("h35;vs0034;l00350;l00001;l06061;", 2);
        // 5, 10 and 15 are 5 days away: rows and columns tell them all.
        dueTellsMost("l00350;l05051;l10101;l15151;", 2);
        // Behind shoals no days are: 7, 9, 13 and 15 in two rows and two columns, 2, 4, 3 and 5 steps from the port.
        String four = "ks01;ks06;l00350;l07071;l09091;l13131;l15151;";
        dueTellsMost(four + "kp00;", 5);
        dueTellsMost(four, 2);
        // Beside them 2, 0, 1 and 3 shoals: as much as the port tells.
        dueTellsMost(four + "ks09;ks16;ks19;ks21;", 4);
        dueTellsMost(four + "ks09;ks16;ks19;ks21;kp00;", 4);
        dueTellsMost("kp00;", 0);
    }

    private void leftBy() {
        document.says("`int leftBy(int kind)`: That sum for a KIND. -2.");
        HeWreckedHimself x = Checks.told("l00350;");
        for (int kind = 0; kind < 6; kind++) due("leftBy(" + kind + "), nothing left", x.leftBy(kind), 0);
        due("leftBy(-1)", x.leftBy(-1), -2);
        due("leftBy(6)", x.leftBy(6), -2);
        int[] open = {146, 721, 216, 216, 1296, 1296};
        int[] heavy = {1314, 6489, 1944, 1944, 11664, 11664};
        for (int kind = 0; kind < 6; kind++) {
            due("leftBy(" + kind + ") of all", new HeWreckedHimself().leftBy(kind), open[kind]);
            due("leftBy(" + kind + ") of all 9", Checks.told("l00359;").leftBy(kind), heavy[kind]);
        }
        x = Checks.told("ks07;l00350;l00001;l01012;l07074;");
        due("all, if no days are", x.leftBy(0), 1 + 2 + 4 * 3);
        due("all, if no bread is", x.leftBy(1), 1 + 2 * 2 + 4 * 3);
        due("all, if no port is", x.leftBy(5), 7 * 3);
    }

    private void dueLie(String text, int kind, int square, int number) {
        due("lie(" + kind + ", " + square + ") in " + text, Checks.told(text).lie(kind, square), number);
    }

    private void lie() {
        document.says("LIE: the number (0 .. 40) of a SIGN of a KIND by which a SQUARE told is not left and WEIGHT left is most, "
            + "more than 0, of several the least; -9.");
        dueLie("l00350;l00001;l35351;", 0, 35, 0);
        dueLie(SNAKE + "l00350;l29291;", 0, 35, 40);
        dueLie(SNAKE + "l00350;l29291;", 1, 35, 40);
        dueLie(SNAKE + "l00350;l29291;kr03;", 0, 35, -9);
        dueLie(SNAKE + "l00350;l29291;kr03;", 1, 35, -9);
        dueLie(SNAKE + "l00350;l29291;kr03;", 0, 29, -9);
        dueLie("l00350;", 2, 0, -9);
        dueLie("l00350;l00009;", 2, 0, -9);
        dueLie("l00350;l05059;", 2, 0, -9);
        dueLie("l00350;l05059;", 3, 0, 5);
        dueLie("l00350;l06061;l12121;", 2, 0, 1);
        dueLie("l00350;l06061;l12122;", 2, 0, 2);
        dueLie("l00350;l06061;l12122;", 2, 12, 1);
    }

    private void lieOfNumbers() {
        document.says("`int lie(int kind, int square)`: LIE; -9. -2; -1.");
        dueLie("h00;", 1, 0, -9);
        dueLie("h00;", 1, 1, 0);
        dueLie("h00;", 1, 35, 9);
        dueLie("h00;", 4, 0, -9);
        dueLie("h00;", 5, 0, -9);
        dueLie("ks07;", 1, 7, 10);
        dueLie("ks07;", 0, 7, 5);
        dueLie("kp00;l00350;l00001;", 5, 0, -9);
        dueLie("kp00;l00350;l00001;", 5, 1, 0);
        HeWreckedHimself x = new HeWreckedHimself();
        due("lie(5, 35)", x.lie(5, 35), -9);
        due("lie(6, 35)", x.lie(6, 35), -2);
        due("lie(-1, 0)", x.lie(-1, 0), -2);
        due("lie(0, 36)", x.lie(0, 36), -1);
        due("lie(0, -1)", x.lie(0, -1), -1);
    }

    private void known() {
        document.says("KNOWN: the number of a SIGN of a KIND that is true of a SQUARE (of BREAD the least); -9 none.");
        document.says("`int known(int kind, int square)`: KNOWN: the true number; -9. -2; -1.");
        HeWreckedHimself x = Checks.told("kp00;ks34;");
        int[] last = {10, 10, 5, 5, 1, 10};
        int[] first = {0, 0, 0, 0, 0, 0};
        int[] shoal = {-9, -9, 5, 4, 0, 9};
        for (int kind = 0; kind < 6; kind++) {
            due("known(" + kind + ", 35)", x.known(kind, 35), last[kind]);
            due("known(" + kind + ", 0)", x.known(kind, 0), first[kind]);
            due("known(" + kind + ", 34)", x.known(kind, 34), shoal[kind]);
        }
        due("known(-1, 0)", x.known(-1, 0), -2);
        due("known(6, 0)", x.known(6, 0), -2);
        due("known(0, -1)", x.known(0, -1), -1);
        due("known(0, 36)", x.known(0, 36), -1);
        x.make(35, 0);
        due("of what is not left, too", x.known(0, 35), 10);
        due("more than a lie may be", Checks.told(SNAKE + "kr03;").known(0, 35), 42);
    }

    private void dueNeeded(String text, int square, int bits) {
        due("needed(" + square + ") in " + text, Checks.told(text).needed(square), bits);
    }

    private void needed() {
        document.says("NEEDED: the fewest KINDS of SIGNS (bits, of several the least), each true of a SQUARE, by which it alone is LEFT; -9.");
        document.says("`int needed(int square)`: NEEDED (bits); -9. -1; -3 it is not LEFT.");
        dueNeeded("l00350;l35351;", 35, 0);
        dueNeeded("l00350;l35351;", 34, -3);
        dueNeeded("l00350;", 0, -3);
        dueNeeded("h00;", 0, 1);
        dueNeeded("h00;", 35, 1);
        dueNeeded("h00;", 5, 5);
        dueNeeded("h00;", 36, -1);
        dueNeeded("h00;", -1, -1);
        dueNeeded("l00350;l01021;", 1, 1);
        dueNeeded("l00350;l01021;", 2, 1);
        dueNeeded("h35;l00350;l34351;", 35, 1);
        dueNeeded("ks35;", 35, 12);
        dueNeeded("ks35;l00350;l35351;l00001;", 35, 4);
        dueNeeded("ks35;l00350;l35351;l30301;", 35, 8);
        dueNeeded("ks35;l00350;l35351;", 35, 0);
        dueNeeded("h14;l00350;l13131;l15151;l08081;ks07;", 13, 8);
        dueNeeded("h14;l00350;l08081;l20201;l13131;l01011;l19191;l15151;ks07;", 13, 9);
    }

    private void dueHide(String text, int square, int others) {
        HeWreckedHimself x = Checks.told(text);
        due("hide(0) of " + text, x.hide(0), square);
        due("hide(1) of " + text, x.hide(1), others);
    }

    private void hide() {
        document.says("HIDE: the SQUARE LEFT with most others LEFT for which KNOWN of KINDS d and s is as for it, of several the least; "
            + "-9; how many others.");
        document.says("`int hide(int what)`: HIDE: the SQUARE (what 0; -9), how many (1; -9). -2.");
        dueHide("l00350;", -9, -9);
        dueHide("l00350;l00009;", 0, 0);
        dueHide("l00350;l35359;", 35, 0);
        dueHide("l00350;l34351;", 34, 0);
        dueHide("l00350;l34341;l29291;", 29, 1);
        dueHide("l00350;l34341;l29291;ks28;ks35;", 29, 1);
        dueHide("l00350;l34341;l29291;ks33;", 29, 0);
        dueHide("h00;", 5, 5);
        dueHide("h14;l00350;l00001;l04041;", 0, 1);
        dueHide("h14;l00350;l00001;l04041;ks01;", 0, 0);
        dueHide("h14;l00350;l00001;l04041;ks01;ks10;", 0, 1);
        HeWreckedHimself x = new HeWreckedHimself();
        due("hide(-1)", x.hide(-1), -2);
        due("hide(2)", x.hide(2), -2);
    }

    private void hideWithoutDays() {
        dueHide("ks28;ks35;l00350;l28281;l35351;", 28, 1);
        dueHide("ks28;ks35;ks34;l00350;l28281;l35351;", 28, 1);
        dueHide("ks28;ks35;ks27;l00350;l28281;l35351;", 28, 0);
        dueHide("ks35;l00350;l35351;l00001;", 0, 0);
    }
}
