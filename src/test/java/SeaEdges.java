/** Edges of squares, of what a captain has, of how they are changed and kept. */
final class SeaEdges {
    private static final int[] FIRST = {0, 4, 2, 30, 9};
    private static final int[] LEAST = {0, 1, 1, 0, 0};
    private static final int[] GREATEST = {35, 9, 9, 99, 99};

    private final Document document;

    SeaEdges(Document document) {
        this.document = document;
    }

    void all() {
        squares();
        ways();
        kindsAndLikely();
        home();
        numbers();
        kindsTable();
        reef();
        current();
        leftAndWeight();
        newObject();
        squareCall();
        turnTo();
        make();
        set();
        setHome();
        image();
        imageLeavesOut();
        imageAndOn();
        count();
    }

    private void due(String call, long got, long want) {
        document.due(call, got, want);
    }

    private void squares() {
        document.says("SQUARES 0 .. 35: row SQUARE by 6, column SQUARE modulo 6;");
        HeWreckedHimself x = new HeWreckedHimself();
        int square = 0;
        for (int row = 0; row < 6; row++) {
            for (int column = 0; column < 6; column++) {
                due("row of " + square, x.known(2, square), row);
                due("column of " + square, x.known(3, square), column);
                square++;
            }
        }
        due("square(0, 2)", x.square(0, 2), 1);
        due("square(35, 2)", x.square(35, 2), 1);
        due("square(-1, 2)", x.square(-1, 2), -1);
        due("square(36, 2)", x.square(36, 2), -1);
    }

    private void ways() {
        document.says("WAYS 0 up, 1 left, 2 right, 3 down, to the SQUARE beside in the sea.");
        int[] rowsOn = {-1, 0, 0, 1};
        int[] columnsOn = {0, -1, 1, 0};
        for (int square = 0; square < 36; square++) {
            HeWreckedHimself x = new HeWreckedHimself();
            x.set(0, square);
            for (int way = 0; way < 4; way++) {
                int row = square / 6 + rowsOn[way];
                int column = square % 6 + columnsOn[way];
                boolean inTheSea = row >= 0 && row < 6 && column >= 0 && column < 6;
                Checks.rowOf(x, way);
                String call = " of way " + way + " from " + square;
                due("judge(0)" + call, x.judge(0), inTheSea ? -9 : 0);
                due("judge(1)" + call, x.judge(1), inTheSea ? 6 * row + column : square);
                due("judge(2)" + call, x.judge(2), inTheSea ? 1 : 0);
                if (inTheSea) due("way" + call, x.way(square, 6 * row + column), way);
            }
        }
        HeWreckedHimself x = new HeWreckedHimself();
        due("a row's end is not beside the next row", x.days(5, 6), 6);
        due("nor the next row beside it", x.days(30, 29), 6);
    }

    private void kindsAndLikely() {
        document.says("KINDS of SQUARES (o at first), how LIKELY the islands are there (0 .. 9; 1 at first).");
        HeWreckedHimself x = new HeWreckedHimself();
        for (int square = 0; square < 36; square += 35) {
            due("square(" + square + ", 0)", x.square(square, 0), 0);
            due("first likely", x.make(square, 0), 1);
            due("the least", x.square(square, 2), 0);
            due("the greatest", x.make(square, 9), 0);
            due("is taken", x.square(square, 2), 9);
            due("below the least", x.make(square, -1), -4);
            due("above the greatest", x.make(square, 10), -6);
        }
    }

    private void home() {
        document.says("HOME (a SQUARE on which one can be: 0 at first).");
        HeWreckedHimself x = new HeWreckedHimself();
        due("at first", x.count(2), 0);
        due("the last square", x.set(0, 35), 0);
        due("the first square", x.set(0, 0), 35);
        due("behind the last", x.set(0, 36), -1);
        due("before the first", x.set(0, -1), -1);
        x.turnTo(35, 1);
        due("where one can not be", x.set(0, 35), -3);
        due("it stays", x.count(2), 0);
    }

    private void numbers() {
        String[] sentences = {"DRAUGHT (1 .. 9: 4 at first).", "BEHIND (1 .. 9 days: 2 at first): how far the follower is.",
            "CARGO, SECRET (0 .. 99: 30 and 9 at first).", "CARGO, SECRET (0 .. 99: 30 and 9 at first)."};
        for (int what = 1; what < 5; what++) {
            document.says(sentences[what - 1]);
            HeWreckedHimself x = new HeWreckedHimself();
            due("count(" + (2 + what) + ") at first", x.count(2 + what), FIRST[what]);
            due("set(" + what + ", least)", x.set(what, LEAST[what]), FIRST[what]);
            due("set(" + what + ", below it)", x.set(what, LEAST[what] - 1), -4);
            due("set(" + what + ", greatest)", x.set(what, GREATEST[what]), LEAST[what]);
            due("set(" + what + ", above it)", x.set(what, GREATEST[what] + 1), -6);
            due("count(" + (2 + what) + ")", x.count(2 + what), GREATEST[what]);
        }
    }

    /** Squares 0, 1, 2 in a row with nothing beside; of the middle one: there, days by 2, days by 1, days back by a turn. */
    private void dueOfKind(char kind, int draught, int can, int days, int turned) {
        HeWreckedHimself x = Checks.told("vs0611;d" + draught + "2;k" + kind + "01;");
        due("square(1, 1) of " + kind, x.square(1, 1), can);
        due("days(0, 1) to " + kind, x.days(0, 1), days);
        due("days(2, 1) to " + kind, x.days(2, 1), days);
        due("shake(0) by " + kind, x.shake(0), turned);
        Checks.rowOf(x, 2, 1);
        due("judge(3) by " + kind, x.judge(3), turned == -9 ? 0 : 1);
    }

    private void kindsTable() {
        document.says("KINDS of SQUARES, whether one can be there, DAYS to come to it, whether a turn there shakes off who follows:");
        due("letters of all six", Checks.tell(new HeWreckedHimself(), "ko01;ks02;kr03;kf04;kc05;kp06;"), 6);
        document.says("o OPEN: one can; 1; not.");
        dueOfKind('o', 4, 1, 1, -9);
        document.says("s SHOAL under OPEN: not.");
        dueOfKind('s', 4, 0, -9, -9);
        dueOfKind('s', 1, 0, -9, -9);
        document.says("f FOG under OPEN: 2; it does.");
        dueOfKind('f', 4, 1, 2, 3);
        dueOfKind('f', 9, 1, 2, 3);
        document.says("p PORT under OPEN: 1; not.");
        dueOfKind('p', 4, 1, 1, -9);
        document.says("Where it is not told as above them.");
        dueOfKind('c', 9, 1, 1, -9);
        dueOfKind('r', 1, 1, 3, -9);
    }

    private void reef() {
        document.says("r REEF under SHOAL: if DRAUGHT is 3 or less; 3.");
        for (int draught = 1; draught <= 9; draught++) {
            dueOfKind('r', draught, draught <= 3 ? 1 : 0, draught <= 3 ? 3 : -9, -9);
        }
    }

    private void current() {
        document.says("c CURRENT under OPEN: 1, but 3 by WAY 0 (up).");
        HeWreckedHimself x = Checks.told("vs0105;ks07;ks13;kc06;");
        due("down to it", x.days(0, 6), 1);
        due("up to it", x.days(12, 6), 3);
        due("up from it", x.days(6, 0), 1);
        x = Checks.told("vs0611;kc01;");
        due("right to it", x.days(0, 1), 1);
        due("left to it", x.days(2, 1), 1);
    }

    private void leftAndWeight() {
        document.says("LEFT: SQUARES LIKELY above 0; WEIGHT of all LIKELY.");
        HeWreckedHimself x = Checks.told("l00359;");
        due("all left", x.count(0), 36);
        due("the greatest weight", x.count(1), 324);
        Checks.tell(x, "l00350;");
        due("nothing left", x.count(0), 0);
        due("no weight", x.count(1), 0);
        x.make(35, 1);
        due("one left", x.count(0), 1);
        due("its weight", x.count(1), 1);
        x.turnTo(35, 1);
        due("where one can not be, too", x.count(0), 1);
    }

    private void newObject() {
        document.says("`HeWreckedHimself()`: All OPEN, all LIKELY 1, HOME 0.");
        HeWreckedHimself x = new HeWreckedHimself();
        int[] counts = {36, 36, 0, 4, 2, 30, 9, 36, 0, 0, -9, 0, 0, 0, 0, 0, 0, -9};
        for (int what = 0; what < counts.length; what++) due("count(" + what + ")", x.count(what), counts[what]);
        for (int square = 0; square < 36; square++) {
            due("square(" + square + ", 0)", x.square(square, 0), 0);
            due("square(" + square + ", 2)", x.square(square, 2), 1);
        }
    }

    private void squareCall() {
        document.says("`int square(int square, int what)`: Of a SQUARE: 0 KIND (0 o, 1 s, 2 r, 3 f, 4 c, 5 p), "
            + "1 whether one can be there, 2 LIKELY. -1; -2.");
        HeWreckedHimself x = Checks.told("ko30;ks31;kr32;kf33;kc34;kp35;l35359;l30300;");
        int[] can = {1, 0, 0, 1, 1, 1};
        for (int kind = 0; kind < 6; kind++) {
            due("square(" + (30 + kind) + ", 0)", x.square(30 + kind, 0), kind);
            due("square(" + (30 + kind) + ", 1)", x.square(30 + kind, 1), can[kind]);
        }
        due("square(35, 2)", x.square(35, 2), 9);
        due("square(30, 2)", x.square(30, 2), 0);
        due("square(35, 3)", x.square(35, 3), -2);
        due("square(35, -1)", x.square(35, -1), -2);
    }

    private void turnTo() {
        document.says("`int turnTo(int square, int kind)`: KIND becomes another one: what it was. "
            + "-1; -2; -3 one could not be on HOME.");
        HeWreckedHimself x = new HeWreckedHimself();
        for (int kind = 0; kind < 6; kind++) {
            due("turnTo(35, " + kind + ")", x.turnTo(35, kind), kind == 0 ? 0 : kind - 1);
        }
        due("turnTo(35, 6)", x.turnTo(35, 6), -2);
        due("turnTo(35, -1)", x.turnTo(35, -1), -2);
        due("the same once more", x.turnTo(35, 5), 5);
        int[] atHome = {0, -3, -3, 0, 3, 4};
        for (int kind = 0; kind < 6; kind++) due("turnTo(0, " + kind + ")", x.turnTo(0, kind), atHome[kind]);
        x.set(1, 3);
        due("a reef on HOME by draught 3", x.turnTo(0, 2), 5);
        due("a shoal on HOME by draught 3", x.turnTo(0, 1), -3);
        due("HOME's kind", x.square(0, 0), 2);
        x.set(0, 35);
        due("a shoal where HOME was", x.turnTo(0, 1), 2);
    }

    private void make() {
        document.says("`int make(int square, int v)`: LIKELY becomes v: what it was. -1; -4; -6 9.");
        HeWreckedHimself x = new HeWreckedHimself();
        int was = 1;
        for (int v = 0; v <= 9; v++) {
            due("make(35, " + v + ")", x.make(35, v), was);
            was = v;
        }
        due("make(35, 10)", x.make(35, 10), -6);
        due("make(35, -1)", x.make(35, -1), -4);
        due("likely", x.square(35, 2), 9);
        for (int square = 0; square < 36; square++) x.make(square, 0);
        due("nothing is left by it, too", x.count(0), 0);
    }

    private void set() {
        document.says("`int set(int what, int v)`: HOME (what 0), DRAUGHT (1), BEHIND (2), CARGO (3), SECRET (4) becomes v: "
            + "what it was. -2; -1 no SQUARE; -4 (1; 1; 0; 0); -6 (9; 9; 99; 99); -3 HOME would be where one can not be.");
        HeWreckedHimself x = new HeWreckedHimself();
        due("set(-1, 1)", x.set(-1, 1), -2);
        due("set(5, 1)", x.set(5, 1), -2);
        for (int what = 0; what < 5; what++) {
            int was = FIRST[what];
            for (int v = LEAST[what]; v <= GREATEST[what]; v++) {
                due("set(" + what + ", " + v + ")", x.set(what, v), was);
                was = v;
            }
            due("set(" + what + ", below)", x.set(what, LEAST[what] - 1), what == 0 ? -1 : -4);
            due("set(" + what + ", above)", x.set(what, GREATEST[what] + 1), what == 0 ? -1 : -6);
        }
        for (int what = 0; what < 5; what++) due("count(" + (2 + what) + ")", x.count(2 + what), GREATEST[what]);
    }

    private void setHome() {
        HeWreckedHimself x = Checks.told("d32;kr00;kr01;ks02;");
        due("HOME on a shoal", x.set(0, 2), -3);
        due("HOME on a reef by draught 3", x.set(0, 1), 0);
        due("DRAUGHT 4 on a reef", x.set(1, 4), -3);
        due("DRAUGHT 9 on a reef", x.set(1, 9), -3);
        due("DRAUGHT is as it was", x.count(3), 3);
        due("DRAUGHT 1 on a reef", x.set(1, 1), 3);
        due("DRAUGHT 3 on a reef", x.set(1, 3), 1);
        due("HOME off the reef", x.set(0, 3), 1);
        due("DRAUGHT 4 then", x.set(1, 4), 3);
        due("HOME on a reef by draught 4", x.set(0, 1), -3);
        due("HOME on the HOME that is", x.set(0, 3), 3);
    }

    private void image() {
        document.says("THE IMAGE: all that there is, but it, the ROW, letters, REFUSALS; ON from it all is as then.");
        HeWreckedHimself x = Checks.told("vf0611;ks13;kr14;kc20;kp35;l01059;l06110;d19;c9900;h05;");
        x.image();
        Checks.tell(x, "vo0035;l00351;d41;c0099;h00;");
        x.turnTo(35, 1);
        due("on()", x.on(), 30);
        int[] counts = {30, 70, 5, 1, 9, 99, 0, 35};
        for (int what = 0; what < counts.length; what++) due("count(" + what + ")", x.count(what), counts[what]);
        int[] squares = {0, 6, 11, 12, 13, 14, 20, 34, 35};
        int[] kinds = {0, 3, 3, 0, 1, 2, 4, 0, 5};
        int[] likely = {1, 0, 0, 1, 1, 1, 1, 1, 1};
        for (int i = 0; i < squares.length; i++) {
            due("square(" + squares[i] + ", 0)", x.square(squares[i], 0), kinds[i]);
            due("square(" + squares[i] + ", 2)", x.square(squares[i], 2), likely[i]);
        }
        due("square(1, 2)", x.square(1, 2), 9);
        due("square(5, 2)", x.square(5, 2), 9);
    }

    private void imageLeavesOut() {
        HeWreckedHimself x = new HeWreckedHimself();
        x.row(3);
        x.letter('h');
        x.letter('0');
        x.square(36, 0);
        x.image();
        x.row(2);
        x.letter('7');
        x.letter(';');
        x.row(-1);
        x.on();
        due("the ROW", x.count(8), 2);
        due("the ROW's numbers", x.judge(1), 7);
        due("letters", x.count(9), 4);
        due("what the letters tell", x.sea(), 1);
        due("HOME by them", x.count(2), 7);
        due("REFUSALS -1", x.count(11), 1);
        due("REFUSALS -4", x.count(14), 1);
        due("the ROW goes on from there", x.judge(1), 14);
        x.clear();
        x.on();
        due("an empty ROW stays empty", x.count(8), 0);
        due("HOME then", x.count(2), 0);
        x.letter('k');
        x.sea();
        x.on();
        due("no letters stay none", x.count(9), 0);
    }

    private void imageAndOn() {
        document.says("`int image()`: THE IMAGE is taken: how many are LEFT.");
        HeWreckedHimself x = Checks.told("l00350;");
        due("nothing left", x.image(), 0);
        x.make(3, 5);
        due("ON from nothing left", x.on(), 0);
        due("the weight then", x.count(1), 0);
        x.make(4, 5);
        due("taken again", x.image(), 1);
        x.make(4, 0);
        due("ON from the newer", x.on(), 1);
        document.says("`int on()`: ON from it: how many are LEFT. -3 there is none.");
        x = new HeWreckedHimself();
        due("none", x.on(), -3);
        due("none again", x.on(), -3);
        due("REFUSALS -3", x.count(13), 2);
        due("image()", x.image(), 36);
        x.make(0, 0);
        due("ON", x.on(), 36);
        x.make(1, 0);
        x.make(2, 0);
        due("ON from it once more", x.on(), 36);
        due("square(1, 2)", x.square(1, 2), 1);
    }

    private void count() {
        document.says("`int count(int what)`: 0 LEFT, 1 WEIGHT, 2 HOME, 3 DRAUGHT, 4 BEHIND, 5 CARGO, 6 SECRET, "
            + "7 SQUARES one can be on, 8 in the ROW, 9 letters, 11 .. 16 REFUSALS -1 .. -6. -9 for another what.");
        HeWreckedHimself x = Checks.told("l00002;l01010;h07;d35;c0199;ks35;kr34;");
        x.row(1);
        x.row(1);
        x.letter(0);
        x.make(36, 0);
        x.mean(2);
        x.wreck(2);
        for (int i = 0; i < 3; i++) x.on();
        for (int i = 0; i < 4; i++) x.make(0, -1);
        for (int i = 0; i < 6; i++) x.make(0, 10);
        int[] counts = {35, 36, 7, 3, 5, 1, 99, 35, 2, 1, -9, 1, 2, 3, 4, 0, 6, -9};
        for (int what = 0; what < counts.length; what++) due("count(" + what + ")", x.count(what), counts[what]);
        int[] others = {-1, 10, 17, 18, Integer.MIN_VALUE, Integer.MIN_VALUE + 10, Integer.MAX_VALUE};
        for (int what : others) due("count(" + what + ")", x.count(what), -9);
        for (int what = 11; what <= 16; what++) due("count(" + what + ") as before", x.count(what), counts[what]);
        x.set(0, 0);
        x.set(1, 4);
        due("a reef that can not be sailed", x.count(7), 34);
        due("the least that one can be on", Checks.told("vs0135;").count(7), 1);
    }
}
