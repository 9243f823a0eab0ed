import java.util.function.Consumer;
import java.util.function.ToLongFunction;

/**
 * Every refusal of every call, and the order in which a call tells them: what it answers, and that a twin
 * which was not asked answers all else alike from then on.
 */
final class RefusalEdges {
    private static final int LEAST = Integer.MIN_VALUE;
    private static final int MOST = Integer.MAX_VALUE;
    private static final int[] NO_SQUARES = {-1, 36, LEAST, MOST};
    private static final int[] NO_KINDS = {-1, 6, LEAST, MOST};
    private static final int[] NOT_OF_TWO = {-1, 2, LEAST, MOST};
    private static final int[] BELOW = {-1, LEAST};
    private static final int[] ABOVE_99 = {100, MOST};
    private static final long LONGS = 4000000000000000000L;

    private static final Consumer<HeWreckedHimself> AS_IT_IS = x -> { };
    private static final Consumer<HeWreckedHimself> NOTHING_LEFT = x -> {
        for (int square = 0; square < 36; square++) x.make(square, 0);
    };
    private static final Consumer<HeWreckedHimself> FULL = x -> {
        while (x.count(8) < 16) x.row(2);
        while (x.count(9) < 96) x.letter('0');
    };

    private final Document document;

    RefusalEdges(Document document) {
        this.document = document;
    }

    void all() {
        document.says("REFUSALS (the call answers the number, the first that fits in the order in which it tells them; "
            + "nothing changes but how many there were):");
        letters();
        squares();
        turnTo();
        make();
        set();
        learn();
        twoSquares();
        whats();
        foundAndNeeded();
        kindsOfSquares();
        rivals();
        row();
        fits();
        lots();
        on();
        numbersOfRefusals();
        longs();
        noRefusals();
        lastCall();
    }

    private void due(String call, long got, long want) {
        document.due(call, got, want);
    }

    /** One that has something of all there is: an image, a row, letters, a refusal of each number. HOME is a reef. */
    private static HeWreckedHimself lived() {
        HeWreckedHimself x = Checks.told("d32;kr00;ks08;kf01;kc12;kp35;l02059;l20200;c4507;");
        x.image();
        x.make(7, 3);
        x.set(2, 5);
        x.row(3);
        x.row(2);
        for (char c : "ko0".toCharArray()) x.letter(c);
        x.square(36, 0);
        x.square(0, 3);
        x.learn(0, 99);
        x.make(0, -1);
        x.make(0, 10);
        return x;
    }

    private void dueRefused(String call, Consumer<HeWreckedHimself> before, ToLongFunction<HeWreckedHimself> refused, long want) {
        HeWreckedHimself asked = lived();
        HeWreckedHimself twin = lived();
        before.accept(asked);
        before.accept(twin);
        due(call, refused.applyAsLong(asked), want);
        long number = want > 0 ? LONGS - want : want;
        for (int what = 11; what <= 16; what++) {
            due("count(" + what + ") behind " + call, asked.count(what), twin.count(what) + (what == 10 - number ? 1 : 0));
        }
        dueAlike(call, asked, twin);
        for (char c : "5;".toCharArray()) due("a letter behind " + call, asked.letter(c), twin.letter(c));
        due("sea() behind " + call, asked.sea(), twin.sea());
        due("on() behind " + call, asked.on(), twin.on());
        dueAlike(call + " and on()", asked, twin);
    }

    private void dueAlike(String call, HeWreckedHimself asked, HeWreckedHimself twin) {
        for (int what = 0; what < 10; what++) due("count(" + what + ") behind " + call, asked.count(what), twin.count(what));
        for (int square = 0; square < 36; square++) {
            due("square(" + square + ", 0) behind " + call, asked.square(square, 0), twin.square(square, 0));
            due("square(" + square + ", 2) behind " + call, asked.square(square, 2), twin.square(square, 2));
        }
        for (int what = 0; what < 4; what++) due("judge(" + what + ") behind " + call, asked.judge(what), twin.judge(what));
        due("fits(0) behind " + call, asked.fits(0), twin.fits(0));
    }

    private void dueRefused(String call, ToLongFunction<HeWreckedHimself> refused, long want) {
        dueRefused(call, AS_IT_IS, refused, want);
    }

    private void letters() {
        for (int c : BELOW) {
            dueRefused("letter(" + c + ")", x -> x.letter(c), -4);
            dueRefused("letter(" + c + ") when full", FULL, x -> x.letter(c), -4);
        }
        int[] above = {256, MOST};
        for (int c : above) {
            dueRefused("letter(" + c + ")", x -> x.letter(c), -6);
            dueRefused("letter(" + c + ") when full", FULL, x -> x.letter(c), -6);
        }
        dueRefused("letter(0) when full", FULL, x -> x.letter(0), -6);
        dueRefused("letter(255) when full", FULL, x -> x.letter(255), -6);
    }

    private void squares() {
        int[] notOfThree = {-1, 3, LEAST, MOST};
        for (int no : NO_SQUARES) {
            dueRefused("square(" + no + ", 0)", x -> x.square(no, 0), -1);
            dueRefused("square(" + no + ", 3)", x -> x.square(no, 3), -1);
        }
        for (int what : notOfThree) dueRefused("square(35, " + what + ")", x -> x.square(35, what), -2);
    }

    private void turnTo() {
        for (int no : NO_SQUARES) {
            dueRefused("turnTo(" + no + ", 1)", x -> x.turnTo(no, 1), -1);
            dueRefused("turnTo(" + no + ", 6)", x -> x.turnTo(no, 6), -1);
        }
        for (int kind : NO_KINDS) {
            dueRefused("turnTo(35, " + kind + ")", x -> x.turnTo(35, kind), -2);
            dueRefused("turnTo(HOME, " + kind + ")", x -> x.turnTo(0, kind), -2);
        }
        dueRefused("turnTo(HOME, 1)", x -> x.turnTo(0, 1), -3);
        Consumer<HeWreckedHimself> openAndDeep = x -> {
            x.turnTo(0, 0);
            x.set(1, 4);
        };
        dueRefused("turnTo(HOME, 1) by DRAUGHT 4", openAndDeep, x -> x.turnTo(0, 1), -3);
        dueRefused("turnTo(HOME, 2) by DRAUGHT 4", openAndDeep, x -> x.turnTo(0, 2), -3);
    }

    private void make() {
        int[] all = {-1, 10, 5};
        for (int no : NO_SQUARES) {
            for (int v : all) dueRefused("make(" + no + ", " + v + ")", x -> x.make(no, v), -1);
        }
        for (int v : BELOW) dueRefused("make(35, " + v + ")", x -> x.make(35, v), -4);
        int[] above = {10, MOST};
        for (int v : above) dueRefused("make(35, " + v + ")", x -> x.make(35, v), -6);
    }

    private void set() {
        int[] noWhats = {-1, 5, LEAST, MOST};
        int[] all = {LEAST, -1, 0, 1, 36, 100, MOST};
        for (int what : noWhats) {
            for (int v : all) dueRefused("set(" + what + ", " + v + ")", x -> x.set(what, v), -2);
        }
        for (int no : NO_SQUARES) dueRefused("set(0, " + no + ")", x -> x.set(0, no), -1);
        int[] least = {0, 1, 1, 0, 0};
        int[] greatest = {0, 9, 9, 99, 99};
        for (int i = 1; i < 5; i++) {
            int what = i;
            int below = least[i] - 1;
            int above = greatest[i] + 1;
            dueRefused("set(" + what + ", " + below + ")", x -> x.set(what, below), -4);
            dueRefused("set(" + what + ", LEAST)", x -> x.set(what, LEAST), -4);
            // With HOME on a reef: above the greatest DRAUGHT comes before one by which HOME could not be.
            dueRefused("set(" + what + ", " + above + ")", x -> x.set(what, above), -6);
            dueRefused("set(" + what + ", MOST)", x -> x.set(what, MOST), -6);
        }
        dueRefused("set(1, 4) on a reef", x -> x.set(1, 4), -3);
        dueRefused("set(1, 9) on a reef", x -> x.set(1, 9), -3);
        dueRefused("set(0, a shoal)", x -> x.set(0, 8), -3);
    }

    private void learn() {
        int[] all = {-1, 0, 100};
        for (int kind : NO_KINDS) {
            for (int n : all) dueRefused("learn(" + kind + ", " + n + ")", x -> x.learn(kind, n), -2);
        }
        for (int i = 0; i < 6; i++) {
            int kind = i;
            for (int n : BELOW) dueRefused("learn(" + kind + ", " + n + ")", x -> x.learn(kind, n), -4);
            for (int n : ABOVE_99) dueRefused("learn(" + kind + ", " + n + ")", x -> x.learn(kind, n), -6);
            if (kind != 1) dueRefused("learn(" + kind + ", 99)", x -> x.learn(kind, 99), -3);
            dueRefused("learn(" + kind + ", 0), nothing left", NOTHING_LEFT, x -> x.learn(kind, 0), -3);
            dueRefused("learn(" + kind + ", -1), nothing left", NOTHING_LEFT, x -> x.learn(kind, -1), -4);
            dueRefused("learn(" + kind + ", 100), nothing left", NOTHING_LEFT, x -> x.learn(kind, 100), -6);
        }
    }

    private void twoSquares() {
        for (int no : NO_SQUARES) {
            dueRefused("days(" + no + ", 0)", x -> x.days(no, 0), -1);
            dueRefused("days(35, " + no + ")", x -> x.days(35, no), -1);
            dueRefused("days of both " + no, x -> x.days(no, no), -1);
            dueRefused("way(" + no + ", 0)", x -> x.way(no, 0), -1);
            dueRefused("way(35, " + no + ")", x -> x.way(35, no), -1);
            dueRefused("way of both " + no, x -> x.way(no, no), -1);
            dueRefused("shake(" + no + ")", x -> x.shake(no), -1);
            dueRefused("led(" + no + ")", x -> x.led(no), -1);
        }
    }

    private void whats() {
        int[] notOfFour = {-1, 4, LEAST, MOST};
        for (int what : NOT_OF_TWO) {
            dueRefused("wreck(" + what + ")", x -> x.wreck(what), -2);
            dueRefused("pay(" + what + ")", x -> x.pay(what), -2);
            dueRefused("mean(" + what + ")", x -> x.mean(what), LONGS + 2);
            dueRefused("hide(" + what + ")", x -> x.hide(what), -2);
            dueRefused("close(" + what + ")", x -> x.close(what), -2);
            Consumer<HeWreckedHimself> nothingToWreck = x -> x.turnTo(8, 0);
            dueRefused("wreck(" + what + ") of none", nothingToWreck, x -> x.wreck(what), -2);
            dueRefused("pay(" + what + ") of none", nothingToWreck, x -> x.pay(what), -2);
            dueRefused("mean(" + what + "), nothing left", NOTHING_LEFT, x -> x.mean(what), LONGS + 2);
            dueRefused("hide(" + what + "), nothing left", NOTHING_LEFT, x -> x.hide(what), -2);
        }
        for (int what : notOfFour) {
            dueRefused("judge(" + what + ")", x -> x.judge(what), -2);
            dueRefused("judge(" + what + ") of a full ROW", FULL, x -> x.judge(what), -2);
        }
    }

    private void foundAndNeeded() {
        for (int no : NO_SQUARES) {
            dueRefused("found(" + no + ")", x -> x.found(no), -1);
            dueRefused("needed(" + no + ")", x -> x.needed(no), -1);
            dueRefused("found(" + no + "), nothing left", NOTHING_LEFT, x -> x.found(no), -1);
            dueRefused("needed(" + no + "), nothing left", NOTHING_LEFT, x -> x.needed(no), -1);
        }
        dueRefused("found(20)", x -> x.found(20), -3);
        dueRefused("needed(20)", x -> x.needed(20), -3);
        dueRefused("found(0), nothing left", NOTHING_LEFT, x -> x.found(0), -3);
        dueRefused("needed(35), nothing left", NOTHING_LEFT, x -> x.needed(35), -3);
    }

    private void kindsOfSquares() {
        for (int kind : NO_KINDS) {
            dueRefused("leftBy(" + kind + ")", x -> x.leftBy(kind), -2);
            dueRefused("lie(" + kind + ", 0)", x -> x.lie(kind, 0), -2);
            dueRefused("lie(" + kind + ", 36)", x -> x.lie(kind, 36), -2);
            dueRefused("known(" + kind + ", 0)", x -> x.known(kind, 0), -2);
            dueRefused("known(" + kind + ", -1)", x -> x.known(kind, -1), -2);
        }
        for (int no : NO_SQUARES) {
            dueRefused("lie(5, " + no + ")", x -> x.lie(5, no), -1);
            dueRefused("known(5, " + no + ")", x -> x.known(5, no), -1);
            dueRefused("lie(0, " + no + "), nothing left", NOTHING_LEFT, x -> x.lie(0, no), -1);
        }
    }

    private void rivals() {
        for (int no : NO_SQUARES) {
            dueRefused("rivals(" + no + ", 0, 0)", x -> x.rivals(no, 0, 0), -1);
            dueRefused("rivals(0, " + no + ", 0)", x -> x.rivals(0, no, 0), -1);
            dueRefused("rivals(0, 0, " + no + ")", x -> x.rivals(0, 0, no), -1);
            dueRefused("rivals of all " + no, x -> x.rivals(no, no, no), -1);
        }
    }

    private void row() {
        for (int v : BELOW) {
            dueRefused("row(" + v + ")", x -> x.row(v), -4);
            dueRefused("row(" + v + ") when full", FULL, x -> x.row(v), -4);
        }
        for (int v : ABOVE_99) {
            dueRefused("row(" + v + ")", x -> x.row(v), -6);
            dueRefused("row(" + v + ") when full", FULL, x -> x.row(v), -6);
        }
        dueRefused("row(0) when full", FULL, x -> x.row(0), -6);
        dueRefused("row(99) when full", FULL, x -> x.row(99), -6);
    }

    private void fits() {
        Consumer<HeWreckedHimself> three = x -> x.row(0);
        Consumer<HeWreckedHimself> kindSix = x -> Checks.rowOf(x, 2, 1, 6, 1);
        for (int what : NOT_OF_TWO) {
            dueRefused("fits(" + what + ")", x -> x.fits(what), -2);
            dueRefused("fits(" + what + ") of three", three, x -> x.fits(what), -2);
            dueRefused("fits(" + what + ") of KIND 6", kindSix, x -> x.fits(what), -2);
        }
        for (int i = 0; i < 2; i++) {
            int what = i;
            dueRefused("fits(" + what + ") of three", three, x -> x.fits(what), -3);
            dueRefused("fits(" + what + ") of KIND 6", kindSix, x -> x.fits(what), -3);
        }
    }

    private void lots() {
        int[] below = {0, -1, LEAST};
        int[] above = {21, MOST};
        int[] whats = {0, 1, 2, -1};
        for (int what : whats) {
            for (int n : below) {
                dueRefused("lots(" + n + ", 0, " + what + ")", x -> x.lots(n, 0, what), -4);
                dueRefused("lots(" + n + ", 0, " + what + "), nothing left", NOTHING_LEFT, x -> x.lots(n, 0, what), -4);
            }
            for (int n : above) {
                dueRefused("lots(" + n + ", 0, " + what + ")", x -> x.lots(n, 0, what), -6);
                dueRefused("lots(" + n + ", 0, " + what + "), nothing left", NOTHING_LEFT, x -> x.lots(n, 0, what), -6);
            }
        }
        for (int what : NOT_OF_TWO) {
            dueRefused("lots(1, 0, " + what + ")", x -> x.lots(1, 0, what), -2);
            dueRefused("lots(20, 0, " + what + "), nothing left", NOTHING_LEFT, x -> x.lots(20, 0, what), -2);
        }
        dueRefused("lots(1, 0, 0), nothing left", NOTHING_LEFT, x -> x.lots(1, 0, 0), -3);
        dueRefused("lots(20, 0, 1), nothing left", NOTHING_LEFT, x -> x.lots(20, 0, 1), -3);
    }

    private void on() {
        HeWreckedHimself x = Checks.told("h07;l00359;");
        due("on() without an image", x.on(), -3);
        due("HOME stays", x.count(2), 7);
        due("WEIGHT stays", x.count(1), 324);
    }

    private void dueCounts(String when, HeWreckedHimself x, int... counts) {
        for (int what = 11; what <= 16; what++) due("count(" + what + ") " + when, x.count(what), counts[what - 11]);
    }

    private void numbersOfRefusals() {
        HeWreckedHimself x = new HeWreckedHimself();
        document.says("-1 NOBODY: no such SQUARE.");
        due("days(36, -1)", x.days(36, -1), -1);
        dueCounts("behind one", x, 1, 0, 0, 0, 0, 0);
        document.says("-2 OTHER: what, KIND.");
        due("hide(2)", x.hide(2), -2);
        due("leftBy(6)", x.leftBy(6), -2);
        dueCounts("behind two more", x, 1, 2, 0, 0, 0, 0);
        document.says("-3 STATE: it is not as it must be.");
        for (int i = 0; i < 3; i++) due("turnTo(0, 1)", x.turnTo(0, 1), -3);
        dueCounts("behind three more", x, 1, 2, 3, 0, 0, 0);
        document.says("-4 BELOW: a number below the least.");
        for (int i = 0; i < 4; i++) due("make(0, -1)", x.make(0, -1), -4);
        dueCounts("behind four more", x, 1, 2, 3, 4, 0, 0);
        document.says("-6 ROOM: a number above the greatest, no room.");
        for (int i = 0; i < 5; i++) due("make(0, 10)", x.make(0, 10), -6);
        for (int i = 0; i < 16; i++) x.row(0);
        due("row(0) when full", x.row(0), -6);
        dueCounts("behind six more", x, 1, 2, 3, 4, 0, 6);
    }

    private void longs() {
        document.says("Of longs 4000000000000000000 less them (-1 as 4000000000000000001).");
        HeWreckedHimself x = new HeWreckedHimself();
        for (int i = 0; i < NOT_OF_TWO.length; i++) {
            due("mean(" + NOT_OF_TWO[i] + ")", x.mean(NOT_OF_TWO[i]), 4000000000000000002L);
            dueCounts("behind it", x, 0, i + 1, 0, 0, 0, 0);
        }
    }

    /** -9, a fault and calls without refusals count nothing. */
    private void noRefusals() {
        document.says("nothing changes but how many there were");
        HeWreckedHimself x = Checks.told("l00350;ks35;");
        x.turnTo(35, 0);
        long[] none = {x.wreck(0), x.wreck(1), x.pay(0), x.pay(1), x.shake(0), x.led(35), x.way(0, 0), x.look(), x.tellsMost(),
            x.lie(0, 0), x.known(5, 0), x.hide(0), x.hide(1), x.judge(0), x.fits(1), x.count(10), x.count(17)};
        for (int i = 0; i < none.length; i++) due("the " + i + ". that is none", none[i], -9);
        due("sea() of no letters", x.sea(), -1000);
        due("sea() with a fault", Checks.tell(x, "h36;"), -2000);
        due("clear()", x.clear(), 0);
        dueCounts("behind all of them", x, 0, 0, 0, 0, 0, 0);
    }

    private void lastCall() {
        HeWreckedHimself x = new HeWreckedHimself();
        for (int i = 1; i < 511; i++) x.days(36, 0);
        due("the 511th call counts 510", x.count(11), 510);
        due("the 512th call", x.close(1), 13);
    }
}
