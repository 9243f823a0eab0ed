/** Compares answers with what is due, prints those that differ, and ends the run. */
final class Checks {
    private int asked = 0;
    private int wrong = 0;

    void due(String call, long got, long want) {
        asked++;
        if (got == want) return;
        wrong++;
        System.out.println(call + " answered " + got + ", due is " + want);
    }

    void note(String what) {
        asked++;
        wrong++;
        System.out.println(what);
    }

    void end() {
        System.out.println(asked + " answers looked at, " + wrong + " not as due");
        if (wrong != 0 || asked == 0) System.exit(1);
    }

    /** The letters come one by one and become a sea. */
    static int tell(HeWreckedHimself x, String text) {
        for (int i = 0; i < text.length(); i++) x.letter(text.charAt(i));
        return x.sea();
    }

    static HeWreckedHimself told(String text) {
        HeWreckedHimself x = new HeWreckedHimself();
        int answer = tell(x, text);
        if (answer <= 0) throw new IllegalStateException(text + " is no sea: " + answer);
        return x;
    }

    /** The numbers come into an empty row. */
    static void rowOf(HeWreckedHimself x, int... numbers) {
        x.clear();
        for (int v : numbers) x.row(v);
    }
}
