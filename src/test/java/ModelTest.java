/** Runs of calls by lot, the same ones on the class and on the model: all answers are alike. */
public final class ModelTest {
    private static final int RUNS = 400;
    private static final int CALLS = 512;
    private static final int[] ODD = {-1, -2, 36, 37, 99, 100, 255, 256, Integer.MIN_VALUE, Integer.MAX_VALUE};

    private final Checks checks = new Checks();
    private long lot;
    private HeWreckedHimself x;
    private Model m;
    private String run;

    public static void main(String[] args) {
        ModelTest test = new ModelTest();
        for (int run = 1; run <= RUNS; run++) test.play(run);
        test.checks.end();
    }

    private int below(int n) {
        lot = lot * 6364136223846793005L + 1442695040888963407L;
        return (int) ((lot >>> 33) % n);
    }

    private boolean rarely(int n) {
        return below(n) == 0;
    }

    /** A number below n, now and then one that no call takes. */
    private int about(int n) {
        return rarely(30) ? ODD[below(ODD.length)] : rarely(30) ? n : below(n);
    }

    private void play(int number) {
        lot = number * 7919L;
        x = new HeWreckedHimself();
        m = new Model();
        int calls = 0;
        if (number % 3 != 0) calls += tell(longSea());
        int changes = 3 + below(20);
        while (calls < CALLS - 100) {
            run = "run " + number + ", call " + calls + ": ";
            calls += rarely(changes) ? change() : ask();
        }
        for (int what = -1; what < 19; what++) due("count(" + what + ")", x.count(what), m.count(what));
        for (int q = 0; q < 36; q++) {
            due("square(" + q + ", 0)", x.square(q, 0), m.square(q, 0));
            due("square(" + q + ", 2)", x.square(q, 2), m.square(q, 2));
        }
    }

    private void due(String call, long got, long want) {
        checks.due(run + call, got, want);
    }

    private int tell(String text) {
        for (int i = 0; i < text.length(); i++) {
            due("letter(" + (int) text.charAt(i) + ")", x.letter(text.charAt(i)), m.letter(text.charAt(i)));
        }
        due("sea() of " + text, x.sea(), m.sea());
        return text.length() + 1;
    }

    private String two(int n) {
        return n < 10 ? "0" + n : "" + n;
    }

    private String longSea() {
        StringBuilder text = new StringBuilder();
        int statements = 3 + below(14);
        for (int i = 0; i < statements; i++) text.append(statement());
        text.setLength(Math.min(text.length(), 97));
        return text.substring(0, text.lastIndexOf(";") + 1);
    }

    /** Nearly always one that can come. */
    private String statement() {
        int first = below(36);
        int last = Math.min(35, first + below(9));
        switch (below(12)) {
            case 0: return "h" + two(below(36)) + ";";
            case 1: return "d" + (1 + below(rarely(3) ? 9 : 4)) + (1 + below(9)) + ";";
            case 2: return "c" + two(below(100)) + two(below(100)) + ";";
            case 3: return rarely(3) ? "s" + "dbrcsp".charAt(below(6)) + two(below(7)) + ";" : "kp" + two(first) + ";";
            case 4: return "l" + two(first) + two(last) + below(10) + ";";
            case 5:
            case 6: return "v" + "osrfcp".charAt(below(6)) + two(Math.max(1, first)) + two(Math.max(1, last)) + ";";
            default: return "k" + "ssrrfffccp".charAt(below(10)) + two(1 + below(35)) + ";";
        }
    }

    /** A text as it should not be, most times. */
    private String oddSea() {
        StringBuilder text = new StringBuilder();
        int statements = below(4);
        for (int i = 0; i < statements; i++) text.append(statement());
        for (int i = below(3); i > 0 && text.length() > 0; i--) {
            int at = below(text.length());
            char c = "kvlhdcsorfp0123456789;x".charAt(below(23));
            if (rarely(3)) text.deleteCharAt(at);
            else if (rarely(2)) text.insert(at, c);
            else text.setCharAt(at, c);
        }
        return text.toString();
    }

    private int change() {
        int a = about(36);
        switch (below(9)) {
            case 0: return tell(rarely(3) ? oddSea() : statement());
            case 1: return tell(rarely(2) ? oddSea() : statement());
            case 2: {
                int kind = about(6);
                due("turnTo(" + a + ", " + kind + ")", x.turnTo(a, kind), m.turnTo(a, kind));
                return 1;
            }
            case 3: {
                int v = about(10);
                due("make(" + a + ", " + v + ")", x.make(a, v), m.make(a, v));
                return 1;
            }
            case 4:
            case 5: {
                int what = about(5);
                int v = about(what == 0 ? 36 : what < 3 ? 10 : 100);
                due("set(" + what + ", " + v + ")", x.set(what, v), m.set(what, v));
                return 1;
            }
            case 6: {
                int kind = about(6);
                int n = rarely(4) ? about(100) : below(12);
                due("learn(" + kind + ", " + n + ")", x.learn(kind, n), m.learn(kind, n));
                return 1;
            }
            case 7: {
                due("on()", x.on(), m.on());
                return 1;
            }
            default: {
                due("image()", x.image(), m.image());
                return 1;
            }
        }
    }

    private int ask() {
        int a = about(36);
        int b = about(36);
        int kind = about(6);
        int what = about(2);
        switch (below(25)) {
            case 0: due("square(" + a + ", " + what + ")", x.square(a, what + 1), m.square(a, what + 1)); break;
            case 1: due("days(" + a + ", " + b + ")", x.days(a, b), m.days(a, b)); break;
            case 2: due("way(" + a + ", " + b + ")", x.way(a, b), m.way(a, b)); break;
            case 3: due("shake(" + a + ")", x.shake(a), m.shake(a)); break;
            case 4: due("led(" + a + ")", x.led(a), m.led(a)); break;
            case 5: due("wreck(" + what + ")", x.wreck(what), m.wreck(what)); break;
            case 6: due("pay(" + what + ")", x.pay(what), m.pay(what)); break;
            case 7: due("found(" + a + ")", x.found(a), m.found(a)); break;
            case 8: due("mean(" + what + ")", x.mean(what), m.mean(what)); break;
            case 9: due("look()", x.look(), m.look()); break;
            case 10: due("tellsMost()", x.tellsMost(), m.tellsMost()); break;
            case 11: due("leftBy(" + kind + ")", x.leftBy(kind), m.leftBy(kind)); break;
            case 12: due("lie(" + kind + ", " + a + ")", x.lie(kind, a), m.lie(kind, a)); break;
            case 13: due("known(" + kind + ", " + a + ")", x.known(kind, a), m.known(kind, a)); break;
            case 14: due("needed(" + a + ")", x.needed(a), m.needed(a)); break;
            case 15: due("rivals(" + a + ", " + b + ")", x.rivals(a, b, kind * 6), m.rivals(a, b, kind * 6)); break;
            case 16: due("hide(" + what + ")", x.hide(what), m.hide(what)); break;
            case 17: due("close(" + what + ")", x.close(what), m.close(what)); break;
            case 18: return walk();
            case 19: return signs();
            case 20: lots(what); break;
            case 21: due("count(" + a + ")", x.count(a), m.count(a)); break;
            case 22: due("row(" + b + ")", x.row(b), m.row(b)); break;
            case 23: due("judge(" + kind + ")", x.judge(kind), m.judge(kind)); break;
            default: due("fits(" + what + ")", x.fits(what), m.fits(what)); break;
        }
        return 1;
    }

    private void lots(int what) {
        int n = about(21);
        int z = below(1 << 30) * (1 - 2 * below(2));
        due("lots(" + n + ", " + z + ", " + what + ")", x.lots(n, z, what), m.lots(n, z, what));
    }

    private void rowOf(int steps, int most) {
        due("clear()", x.clear(), m.clear());
        for (int i = 0; i < steps; i++) {
            int v = below(most);
            due("row(" + v + ")", x.row(v), m.row(v));
        }
    }

    private int walk() {
        int steps = below(10);
        rowOf(steps, rarely(5) ? 5 : 4);
        for (int what = 0; what < 4; what++) due("judge(" + what + ")", x.judge(what), m.judge(what));
        return steps + 5;
    }

    private int signs() {
        int steps = below(8);
        rowOf(steps, 6);
        for (int what = 0; what < 2; what++) due("fits(" + what + ")", x.fits(what), m.fits(what));
        return steps + 3;
    }
}
