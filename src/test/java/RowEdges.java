/** Edges of the row, and of what is judged and fits by it. */
final class RowEdges {
    private final Document document;

    RowEdges(Document document) {
        this.document = document;
    }

    void all() {
        row();
        rowCall();
        clear();
        judgeEmpty();
        judgeFull();
        judgeFault();
        judgeShaken();
        fitsEmpty();
        fitsFull();
        fitsRefused();
    }

    private void due(String call, long got, long want) {
        document.due(call, got, want);
    }

    private void row() {
        document.says("A ROW of numbers (0 .. 99; 16 at most):");
        HeWreckedHimself x = new HeWreckedHimself();
        due("empty", x.count(8), 0);
        for (int i = 1; i <= 16; i++) due("row " + i, x.row(i % 2 == 0 ? 0 : 99), i);
        due("row 17", x.row(0), -6);
        due("full", x.count(8), 16);
    }

    private void rowCall() {
        document.says("`int row(int v)`: A number more of the ROW (0 .. 99): how many. -4; -6 (99; 16, too).");
        HeWreckedHimself x = new HeWreckedHimself();
        due("row(-1)", x.row(-1), -4);
        due("row(100)", x.row(100), -6);
        due("row(0)", x.row(0), 1);
        due("row(99)", x.row(99), 2);
        for (int i = 3; i <= 16; i++) due("row " + i, x.row(i), i);
        due("row 17 of 0", x.row(0), -6);
        due("row 17 of 99", x.row(99), -6);
        due("row 17 of 100", x.row(100), -6);
        due("row 17 of -1", x.row(-1), -4);
        due("REFUSALS -4", x.count(14), 2);
        due("REFUSALS -6", x.count(16), 4);
    }

    private void clear() {
        document.says("`int clear()`: The ROW has none then: how many it had.");
        HeWreckedHimself x = new HeWreckedHimself();
        due("of an empty one", x.clear(), 0);
        x.row(1);
        due("of one", x.clear(), 1);
        due("again", x.clear(), 0);
        for (int i = 0; i < 17; i++) x.row(5);
        due("of a full one", x.clear(), 16);
        due("empty", x.count(8), 0);
        due("room again", x.row(3), 1);
        due("its number", x.judge(1), 6);
    }

    private void dueJudged(String when, HeWreckedHimself x, int... want) {
        for (int what = 0; what < 4; what++) due("judge(" + what + ") " + when, x.judge(what), want[what]);
    }

    private void judgeEmpty() {
        document.says("JUDGED: WAYS from HOME: the first that can not be gone (no WAY, too); -9; by all ahead of it: the SQUARE; "
            + "DAYS; whether it was SHAKEN off.");
        HeWreckedHimself x = Checks.told("h35;kf35;");
        dueJudged("of an empty ROW", x, -9, 35, 0, 0);
        document.says("`int judge(int what)`: JUDGED: the first that can not be (what 0; -9), the SQUARE (1), DAYS (2), "
            + "whether SHAKEN off (3) (the ROW stays). -2.");
        due("judge(-1)", x.judge(-1), -2);
        due("judge(4)", x.judge(4), -2);
        Checks.rowOf(x, 0, 3, 0);
        dueJudged("of three", x, -9, 29, 4, 1);
        due("the ROW stays", x.count(8), 3);
        due("HOME stays", x.count(2), 35);
    }

    private void judgeFull() {
        HeWreckedHimself x = new HeWreckedHimself();
        Checks.rowOf(x, 2, 2, 2, 2, 2, 3, 3, 3, 3, 3, 1, 1, 1, 1, 1, 0);
        dueJudged("of a full ROW", x, -9, 24, 16, 0);
        Checks.rowOf(x, 2, 2, 2, 2, 2, 3, 3, 3, 3, 3, 1, 1, 1, 1, 1, 1);
        dueJudged("of a full ROW, its last off the sea", x, 15, 30, 15, 0);
        Checks.rowOf(x, 2, 2, 2, 2, 2, 3, 3, 3, 3, 3, 1, 1, 1, 1, 1, 4);
        dueJudged("of a full ROW, its last no WAY", x, 15, 30, 15, 0);
    }

    private void judgeFault() {
        HeWreckedHimself x = Checks.told("ks02;kr06;kf01;");
        int[] not = {0, 1, 3, 4, 5, 99};
        for (int way : not) {
            Checks.rowOf(x, way);
            dueJudged("of " + way + " first", x, 0, 0, 0, 0);
            Checks.rowOf(x, 2, way == 1 || way == 3 ? 2 : way, 3);
            dueJudged("of " + way + " behind one", x, 1, 1, 2, 0);
        }
        x.set(1, 3);
        Checks.rowOf(x, 3, 2, 0, 1, 3, 1);
        dueJudged("over a reef by draught 3", x, 5, 6, 3 + 1 + 2 + 1 + 3, 1);
    }

    private void judgeShaken() {
        HeWreckedHimself x = Checks.told("kf01;kf00;kf05;");
        Checks.rowOf(x, 2, 2);
        dueJudged("straight through FOG", x, -9, 2, 3, 0);
        Checks.rowOf(x, 2);
        dueJudged("that ends in FOG", x, -9, 1, 2, 0);
        Checks.rowOf(x, 2, 0);
        dueJudged("that can not be gone on from FOG", x, 1, 1, 2, 0);
        Checks.rowOf(x, 2, 3);
        dueJudged("that turns in FOG", x, -9, 7, 3, 1);
        Checks.rowOf(x, 2, 1);
        dueJudged("back in FOG", x, -9, 0, 4, 1);
        Checks.rowOf(x, 3);
        dueJudged("from HOME in FOG", x, -9, 6, 1, 0);
        Checks.rowOf(x, 3, 2, 3);
        dueJudged("that turns where no FOG is", x, -9, 13, 3, 0);
        Checks.rowOf(x, 2, 3, 99);
        dueJudged("ahead of what is no WAY", x, 2, 7, 3, 1);
    }

    private void fitsEmpty() {
        document.says("FITS: the ROW tells by twos a KIND of SIGN (0 .. 5) and a number: SQUARES LEFT of which all is so: how many; "
            + "the least; -9.");
        HeWreckedHimself x = new HeWreckedHimself();
        due("fits(0) of an empty ROW", x.fits(0), 36);
        due("fits(1) of an empty ROW", x.fits(1), 0);
        x.make(0, 0);
        due("fits(0) of one not left", x.fits(0), 35);
        due("fits(1) of one not left", x.fits(1), 1);
        Checks.tell(x, "l00350;");
        due("fits(0), nothing left", x.fits(0), 0);
        due("fits(1), nothing left", x.fits(1), -9);
        x.make(35, 1);
        due("fits(0) of the last", x.fits(0), 1);
        due("fits(1) of the last", x.fits(1), 35);
        int[][] rows = {{0, 0}, {0, 10}, {0, 11}, {1, 0}, {1, 9}, {1, 10}, {1, 99}, {2, 5}, {2, 6}, {3, 5}, {3, 0}, {4, 0}, {4, 4},
            {5, 0}, {5, 99}};
        int[] fitting = {1, 1, 0, 1, 35, 36, 36, 6, 0, 6, 6, 36, 0, 0, 0};
        int[] least = {0, 35, -9, 0, 0, 0, 0, 30, -9, 5, 0, 0, -9, -9, -9};
        x = new HeWreckedHimself();
        for (int i = 0; i < rows.length; i++) {
            Checks.rowOf(x, rows[i]);
            due("fits(0) of " + rows[i][0] + " " + rows[i][1], x.fits(0), fitting[i]);
            due("fits(1) of " + rows[i][0] + " " + rows[i][1], x.fits(1), least[i]);
        }
        x = Checks.told("ks07;l00350;l07071;");
        Checks.rowOf(x, 1, 99);
        due("a shoal has no BREAD", x.fits(0), 0);
        Checks.rowOf(x, 0, 2);
        due("nor DAYS", x.fits(0), 0);
        Checks.rowOf(x, 2, 1, 3, 1);
        due("but its row and column", x.fits(1), 7);
    }

    private void fitsFull() {
        HeWreckedHimself x = Checks.told("kp35;ks34;");
        Checks.rowOf(x, 0, 10, 1, 10, 2, 5, 3, 5, 4, 1, 5, 0, 1, 99, 1, 11);
        due("fits(0) of a full ROW", x.fits(0), 1);
        due("fits(1) of a full ROW", x.fits(1), 35);
        Checks.rowOf(x, 0, 10, 1, 10, 2, 5, 3, 5, 4, 1, 5, 0, 1, 99, 1, 9);
        due("fits(0), the last is not so", x.fits(0), 0);
        due("fits(1), the last is not so", x.fits(1), -9);
    }

    private void fitsRefused() {
        document.says("`int fits(int what)`: FITS by the ROW (it stays): how many (what 0), the least (1; -9). "
            + "-2; -3 it has not twos, a KIND above 5.");
        HeWreckedHimself x = new HeWreckedHimself();
        due("fits(-1)", x.fits(-1), -2);
        due("fits(2)", x.fits(2), -2);
        Checks.rowOf(x, 2);
        due("of one", x.fits(0), -3);
        Checks.rowOf(x, 2, 1, 3);
        due("of three", x.fits(1), -3);
        Checks.rowOf(x, 5, 0);
        due("KIND 5", x.fits(0), 0);
        Checks.rowOf(x, 6, 0);
        due("KIND 6", x.fits(0), -3);
        Checks.rowOf(x, 2, 1, 99, 1);
        due("KIND 99 behind", x.fits(1), -3);
        Checks.rowOf(x, 2, 6, 3, 99);
        due("a number may be above 5", x.fits(0), 0);
        due("the ROW stays", x.count(8), 4);
        Checks.rowOf(x, 2, 1, 2, 1, 2, 1, 2, 1, 2, 1, 2, 1, 2, 1, 2);
        due("of fifteen", x.fits(0), -3);
        x.row(1);
        due("of sixteen", x.fits(0), 6);
        Checks.rowOf(x, 2, 1, 2, 1, 2, 1, 2, 1, 2, 1, 2, 1, 2, 1, 6, 1);
        due("KIND 6, the last of eight", x.fits(0), -3);
    }
}
