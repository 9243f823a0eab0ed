/** Edges of letters and of the sea that they tell. */
final class TextEdges {
    private static final String FIRST = "kvlhdcs";
    private static final String DIGITS = "0123456789";
    private static final String KINDS = "osrfcp";
    private static final String SIGNS = "dbrcsp";
    private static final String END = ";";

    /** For each statement one that can come, and the letters that its form takes at each place. */
    private static final String[] STATEMENTS = {"ko01;", "vo0102;", "l01021;", "h01;", "d42;", "c3009;", "sb09;"};
    private static final String[][] FORMS = {
        {FIRST, KINDS, DIGITS, DIGITS, END},
        {FIRST, KINDS, DIGITS, DIGITS, DIGITS, DIGITS, END},
        {FIRST, DIGITS, DIGITS, DIGITS, DIGITS, DIGITS, END},
        {FIRST, DIGITS, DIGITS, END},
        {FIRST, DIGITS, DIGITS, END},
        {FIRST, DIGITS, DIGITS, DIGITS, DIGITS, END},
        {FIRST, SIGNS, DIGITS, DIGITS, END}};

    private final Document document;

    TextEdges(Document document) {
        this.document = document;
    }

    void all() {
        room();
        cutOff();
        squareOfKind();
        squaresOfKind();
        squaresOfLikely();
        numbers();
        signs();
        atLeastOne();
        letterThatCanNotGoOn();
        end();
        statementNotAsItMustBe();
        home();
        behindAllAhead();
        formBeforeStatements();
        allOrNothing();
        nothingForTheNext();
        letterCall();
        seaCall();
    }

    private void due(String call, long got, long want) {
        document.due(call, got, want);
    }

    private void dueSea(String text, int want) {
        due("sea() of " + text, Checks.tell(new HeWreckedHimself(), text), want);
    }

    private void room() {
        document.says("A SEA is told in letters, one by one (96 at most): STATEMENTS, each with \";\" behind:");
        dueSea("h01;".repeat(24), 24);
        HeWreckedHimself x = new HeWreckedHimself();
        for (int i = 0; i < 96; i++) due("letter " + (i + 1), x.letter("h07;".charAt(i % 4)), i + 1);
        due("letter 97", x.letter(';'), -6);
        due("96 letters", x.count(9), 96);
        due("they are a sea as if it had not come", x.sea(), 24);
        due("HOME", x.count(2), 7);
        due("room again", x.letter(0), 1);
    }

    /** Statements that can come, of so many letters together. */
    private static String filled(int letters) {
        int fives = letters % 4;
        return "ks35;".repeat(fives) + "h01;".repeat((letters - 5 * fives) / 4);
    }

    private void cutOff() {
        for (String statement : STATEMENTS) {
            for (int kept = 1; kept < statement.length(); kept++) {
                HeWreckedHimself x = new HeWreckedHimself();
                String text = filled(96 - kept) + statement;
                for (int i = 0; i < text.length(); i++) {
                    due("letter " + (i + 1) + " of " + text, x.letter(text.charAt(i)), i < 96 ? i + 1 : -6);
                }
                due("sea() cut off by the 96 letters behind " + statement.substring(0, kept), x.sea(), -1096);
                due("nothing came", x.count(2), 0);
                due("no letters", x.count(9), 0);
            }
        }
        due("a sea of 96 letters that is none before them", Checks.tell(new HeWreckedHimself(), filled(95) + "x"), -1095);
    }

    private void squareOfKind() {
        document.says("\"k\" a letter of a KIND, a SQUARE (2 digits);");
        dueSea("ko00;", 1);
        dueSea("ks35;", 1);
        dueSea("ks36;", -2000);
        dueSea("ko99;", -2000);
        HeWreckedHimself x = Checks.told("ks35;");
        due("the square ahead", x.square(34, 0), 0);
        due("the square told", x.square(35, 0), 1);
    }

    private void squaresOfKind() {
        document.says("\"v\" a letter of a KIND, two SQUARES (2 digits each, the first no more than the other): "
            + "all from the one to the other;");
        dueSea("vf0035;", 1);
        dueSea("vf0000;", 1);
        dueSea("vf3535;", 1);
        dueSea("vf3435;", 1);
        dueSea("vf3534;", -2000);
        dueSea("vf0100;", -2000);
        dueSea("vf3536;", -2000);
        dueSea("vf3636;", -2000);
        dueSea("vf3635;", -2000);
        dueSea("vf0099;", -2000);
        HeWreckedHimself x = Checks.told("vf0411;");
        for (int square = 0; square < 36; square++) {
            due("square(" + square + ", 0)", x.square(square, 0), square >= 4 && square <= 11 ? 3 : 0);
        }
    }

    private void squaresOfLikely() {
        document.says("\"l\" two SQUARES likewise, LIKELY (a digit): all of them;");
        dueSea("l00350;", 1);
        dueSea("l35359;", 1);
        dueSea("l00000;", 1);
        dueSea("l01001;", -2000);
        dueSea("l35341;", -2000);
        dueSea("l35361;", -2000);
        dueSea("l36361;", -2000);
        HeWreckedHimself x = Checks.told("l04119;l12130;");
        for (int square = 0; square < 36; square++) {
            int likely = square < 4 || square > 13 ? 1 : square <= 11 ? 9 : 0;
            due("square(" + square + ", 2)", x.square(square, 2), likely);
        }
    }

    private void dueCounts(String text, int what, int... counts) {
        HeWreckedHimself x = Checks.told(text);
        for (int i = 0; i < counts.length; i++) {
            due("count(" + (what + i) + ") of " + text, x.count(what + i), counts[i]);
        }
    }

    private void numbers() {
        document.says("\"h\" HOME (2 digits);");
        dueCounts("h35;", 2, 35);
        dueCounts("h35;h00;", 2, 0);
        dueSea("h36;", -2000);
        dueSea("h99;", -2000);
        document.says("\"d\" DRAUGHT, BEHIND (a digit each);");
        dueCounts("d11;", 3, 1, 1);
        dueCounts("d19;", 3, 1, 9);
        dueCounts("d91;", 3, 9, 1);
        dueCounts("d99;", 3, 9, 9);
        dueSea("d01;", -2000);
        dueSea("d10;", -2000);
        dueSea("d00;", -2000);
        document.says("\"c\" CARGO, SECRET (2 digits each);");
        dueCounts("c0000;", 5, 0, 0);
        dueCounts("c0099;", 5, 0, 99);
        dueCounts("c9900;", 5, 99, 0);
    }

    private void signs() {
        document.says("\"s\" a SIGN (a letter), its number (2 digits): it is LEARNT.");
        dueCounts("sd00;", 0, 1);
        dueCounts("sd10;", 0, 1);
        dueSea("sd11;", -2000);
        dueSea("sd99;", -2000);
        dueCounts("sb00;", 0, 1);
        dueCounts("sb09;", 0, 35);
        dueCounts("sb10;", 0, 36);
        dueCounts("sb99;", 0, 36);
        dueCounts("sr00;", 0, 6);
        dueCounts("sr05;", 0, 6);
        dueSea("sr06;", -2000);
        dueCounts("sc00;", 0, 6);
        dueCounts("sc05;", 0, 6);
        dueSea("sc06;", -2000);
        dueCounts("ss00;", 0, 36);
        dueSea("ss01;", -2000);
        dueCounts("ks08;ks13;kr15;kr20;ss04;", 0, 1);
        dueSea("ks08;ks13;kr15;kr20;ss05;", -2020);
        dueSea("sp00;", -2000);
        dueCounts("kp35;sp00;", 0, 1);
        dueCounts("kp35;sp10;", 0, 1);
        dueSea("kp35;sp11;", -2005);
    }

    private void atLeastOne() {
        document.says("At least one STATEMENT.");
        HeWreckedHimself x = new HeWreckedHimself();
        due("sea() of no letters", x.sea(), -1000);
        due("and again", x.sea(), -1000);
        due("of one", Checks.tell(x, "h05;"), 1);
        due("its letters are no more", x.sea(), -1000);
        due("HOME stays", x.count(2), 5);
        dueSea(";", -1000);
    }

    /** Every letter there is, at each place of each statement. */
    private void letterThatCanNotGoOn() {
        document.says("FAULT: kind 1 the place of the first letter with which no SEA can go on (the end, if something lacks): "
            + "-1000 less the place;");
        for (int i = 0; i < STATEMENTS.length; i++) {
            due("letters of " + STATEMENTS[i], STATEMENTS[i].length(), FORMS[i].length);
            for (int place = 0; place < FORMS[i].length; place++) {
                for (int letter = 0; letter <= 255; letter++) lookAtLetter(i, place, (char) letter);
            }
        }
        dueSea("x", -1000);
        dueSea("ko01;;", -1005);
        dueSea("xx;k", -1000);
    }

    private void lookAtLetter(int statement, int place, char letter) {
        String ahead = STATEMENTS[statement].substring(0, place);
        String text = "h01;" + ahead + letter + STATEMENTS[statement].substring(place + 1) + "h02;";
        int got = Checks.tell(new HeWreckedHimself(), text);
        String call = "sea() with letter " + (int) letter + " behind h01;" + ahead;
        if (FORMS[statement][place].indexOf(letter) < 0) {
            due(call, got, -1004 - place);
        } else if (place > 0) {
            due(call + " has no FAULT of kind 1", got == 3 || got == -2004 ? 1 : 0, 1);
        } else {
            due(call + " can go on with it", got == -1004 ? 1 : 0, 0);
        }
    }

    private void end() {
        for (String statement : STATEMENTS) {
            dueSea(statement, 1);
            for (int kept = 1; kept < statement.length(); kept++) {
                dueSea(statement.substring(0, kept), -1000 - kept);
                dueSea("h01;" + statement.substring(0, kept), -1004 - kept);
            }
        }
    }

    private void statementNotAsItMustBe() {
        document.says("else kind 2 the place of the first letter of the first STATEMENT that, behind all ahead of it in the text, "
            + "is not as it must be (a number out of range, HOME on which one can not be or that becomes so, "
            + "a SIGN by which nothing LIKELY would be left): -2000 less the place.");
        String[] wrong = {"ko36;", "vo0036;", "vo0100;", "l00361;", "l01001;", "h36;", "d02;", "d20;", "ks00;", "sr06;"};
        for (String statement : wrong) {
            dueSea(statement, -2000);
            dueSea("d42;" + statement, -2004);
            dueSea("d42;ks07;" + statement + "ko36;h02;", -2009);
        }
        dueSea("h01;".repeat(23) + "h36;", -2092);
        dueSea("l00350;sb99;", -2007);
        dueSea("l00350;", 1);
        dueSea("sr00;sr01;", -2005);
        dueSea("sr00;l06061;sr01;", 3);
    }

    private void home() {
        dueSea("ks00;", -2000);
        dueSea("kr00;", -2000);
        dueSea("kr00;d32;", -2000);
        dueSea("d32;kr00;", 2);
        dueSea("d42;kr00;", -2004);
        dueSea("d32;kr00;d12;", 3);
        dueSea("d32;kr00;d42;", -2009);
        dueSea("d32;kr00;d42;h01;", -2009);
        dueSea("d32;kr00;h01;d42;", 4);
        dueSea("d32;ks00;", -2004);
        dueSea("vs0035;", -2000);
        dueSea("vs0135;", 1);
        dueSea("h35;vs0034;", 2);
        dueSea("ks01;h01;", -2005);
        dueSea("kr01;h01;", -2005);
        dueSea("kr01;d32;h01;", 3);
        dueSea("h01;ks00;", 2);
        dueSea("ks00;h01;", -2000);
        dueSea("h01;h00;", 2);
    }

    private void behindAllAhead() {
        String text = "ko00;vo0001;l00001;h00;d42;c3009;sb99;";
        dueSea(text, 7);
        dueSea(text + "ko36;", -2038);
        dueSea("h35;sd00;h00;sd10;", 4);
        dueSea("sd00;h35;sd00;", -2009);
        dueSea("ks01;sd01;sd01;ks06;sd01;", -2020);
        HeWreckedHimself x = Checks.told("kp35;");
        due("a port of a sea before", Checks.tell(x, "sp00;"), 1);
        due("what is left of a sea before", Checks.tell(x, "sr00;"), -2000);
    }

    private void formBeforeStatements() {
        dueSea("ko36;x", -1005);
        dueSea("ko36;ko3", -1008);
        dueSea("ks00;ko36;h", -1011);
        dueSea("sr06;", -2000);
    }

    /** A text with a fault leaves all as it was; without, all of it comes. */
    private void allOrNothing() {
        document.says("Without FAULT all of it comes, with one nothing.");
        String text = "kf35;vf2829;l00059;h35;d19;c0199;sr00;";
        int[] first = {36, 36, 0, 4, 2, 30, 9, 36};
        int[] then = {6, 54, 35, 1, 9, 1, 99, 36};
        String[] behind = {"ko36;", "x", "h", ""};
        int[] answers = {-2038, -1038, -1039, 7};
        for (int i = 0; i < behind.length; i++) {
            HeWreckedHimself x = new HeWreckedHimself();
            due("sea() with " + behind[i], Checks.tell(x, text + behind[i]), answers[i]);
            boolean comes = answers[i] > 0;
            for (int what = 0; what < first.length; what++) {
                due("count(" + what + ") with " + behind[i], x.count(what), comes ? then[what] : first[what]);
            }
            for (int square = 0; square < 36; square++) {
                boolean isFog = comes && (square == 35 || square == 28 || square == 29);
                due("square(" + square + ", 0)", x.square(square, 0), isFog ? 3 : 0);
                due("square(" + square + ", 2)", x.square(square, 2), !comes ? 1 : square < 6 ? 9 : 0);
            }
        }
    }

    private void nothingForTheNext() {
        HeWreckedHimself x = Checks.told("kp35;");
        x.turnTo(34, 3);
        x.make(34, 7);
        x.set(3, 99);
        due("a FAULT behind what could come", Checks.tell(x, "ks05;l05057;d19;c0101;h01;sr00;ko36;"), -2031);
        due("the next sea", Checks.tell(x, "h06;"), 1);
        int[] counts = {36, 42, 6, 4, 2, 99, 9, 36};
        for (int what = 0; what < counts.length; what++) due("count(" + what + ") then", x.count(what), counts[what]);
        due("what the sea before told", x.square(35, 0), 5);
        due("what another call turned", x.square(34, 0), 3);
        due("what the FAULT's sea told", x.square(5, 0), 0);
    }

    private void letterCall() {
        document.says("`int letter(int c)`: A letter (0 .. 255) comes: how many there are. -4; -6 (255; 96, too).");
        HeWreckedHimself x = new HeWreckedHimself();
        due("letter(-1)", x.letter(-1), -4);
        due("letter(256)", x.letter(256), -6);
        due("letter(0)", x.letter(0), 1);
        due("letter(255)", x.letter(255), 2);
        for (int i = 3; i <= 96; i++) due("letter " + i, x.letter(i), i);
        due("letter 97", x.letter(0), -6);
        due("letter 97 of 255", x.letter(255), -6);
        due("letter 97 of 256", x.letter(256), -6);
        due("letter 97 of -1", x.letter(-1), -4);
        due("letters", x.count(9), 96);
        due("REFUSALS -4", x.count(14), 2);
        due("REFUSALS -6", x.count(16), 4);
    }

    private void seaCall() {
        document.says("`int sea()`: The letters become a SEA, and are no more (with a FAULT neither): how many STATEMENTS; "
            + "the FAULT (nothing is counted).");
        HeWreckedHimself x = new HeWreckedHimself();
        int[] answers = {-1000, -1003, -2000, 1, 2};
        String[] texts = {"", "ko0", "h36;", "h07;", "c0101;h08;"};
        for (int i = 0; i < texts.length; i++) {
            due("sea() of " + texts[i], Checks.tell(x, texts[i]), answers[i]);
            due("letters behind " + texts[i], x.count(9), 0);
            for (int what = 11; what <= 16; what++) due("REFUSALS behind " + texts[i], x.count(what), 0);
        }
        x.row(7);
        x.image();
        Checks.tell(x, "ko0");
        Checks.tell(x, "h09;");
        due("the ROW stays", x.count(8), 1);
        x.on();
        due("THE IMAGE stays", x.count(2), 8);
    }
}
