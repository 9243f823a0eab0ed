import java.util.ArrayList;
import java.util.Arrays;
import java.util.List;
import java.util.function.IntPredicate;
import java.util.regex.Matcher;
import java.util.regex.Pattern;
import java.util.stream.IntStream;

/**
 * The document written a second time, by other means than the class (all days from all squares by
 * Floyd and Warshall, ways in fog step by step, texts by a regular expression, lists and sorting),
 * so that a slip in one is not likely to be in the other.
 */
final class Model {
    private static final int NONE = -9;
    private static final int FAR = 100000;
    private static final Pattern SEA = Pattern.compile(
        "(?:k[osrfcp][0-9]{2};|v[osrfcp][0-9]{4};|l[0-9]{5};|[hd][0-9]{2};|c[0-9]{4};|s[dbrcsp][0-9]{2};)+");

    private static final class State implements Cloneable {
        String kinds = "o".repeat(36);
        int[] likely = new int[36];
        int home = 0;
        int draught = 4;
        int behind = 2;
        int cargo = 30;
        int secret = 9;

        State copy() {
            State other = new State();
            other.kinds = kinds;
            other.likely = likely.clone();
            other.home = home;
            other.draught = draught;
            other.behind = behind;
            other.cargo = cargo;
            other.secret = secret;
            return other;
        }

        void turn(int square, char kind) {
            kinds = kinds.substring(0, square) + kind + kinds.substring(square + 1);
        }

        boolean can(int square) {
            char kind = kinds.charAt(square);
            return kind != 's' && (kind != 'r' || draught <= 3);
        }

        int cost(int from, int to) {
            switch (kinds.charAt(to)) {
                case 'r': return 3;
                case 'f': return 2;
                case 'c': return to == from - 6 ? 3 : 1;
                default: return 1;
            }
        }
    }

    private State s = new State();
    private State image = null;
    private String letters = "";
    private final List<Integer> row = new ArrayList<>();
    private final int[] refused = new int[7];

    Model() {
        Arrays.fill(s.likely, 1);
    }

    private int no(int number) {
        refused[-number]++;
        return number;
    }

    private static boolean out(int... squares) {
        return Arrays.stream(squares).anyMatch(q -> q < 0 || q > 35);
    }

    private static boolean beside(int a, int b) {
        return Math.abs(a / 6 - b / 6) + Math.abs(a % 6 - b % 6) == 1;
    }

    private static int wayOf(int a, int b) {
        if (b == a - 6) return 0;
        if (b == a - 1) return 1;
        return b == a + 1 ? 2 : 3;
    }

    private static IntStream squares(IntPredicate which) {
        return IntStream.range(0, 36).filter(which);
    }

    private IntStream left() {
        return squares(q -> s.likely[q] > 0);
    }

    private static int[][] allDays(State s) {
        int[][] d = new int[36][36];
        for (int a = 0; a < 36; a++) {
            for (int b = 0; b < 36; b++) {
                d[a][b] = a == b && s.can(a) ? 0 : FAR;
                if (beside(a, b) && s.can(a) && s.can(b)) d[a][b] = s.cost(a, b);
            }
        }
        for (int m = 0; m < 36; m++) {
            for (int a = 0; a < 36; a++) {
                for (int b = 0; b < 36; b++) d[a][b] = Math.min(d[a][b], d[a][m] + d[m][b]);
            }
        }
        return d;
    }

    private static int told(int days) {
        return days >= FAR ? NONE : days;
    }

    private int fromHome(int square) {
        return told(allDays(s)[s.home][square]);
    }

    // Signs

    private static int[][] truths(State s) {
        int[][] t = new int[6][36];
        int[] d = allDays(s)[s.home];
        for (int q = 0; q < 36; q++) {
            int square = q;
            t[0][q] = t[1][q] = told(d[q]);
            t[2][q] = q / 6;
            t[3][q] = q % 6;
            t[4][q] = (int) squares(o -> beside(o, square) && "sr".indexOf(s.kinds.charAt(o)) >= 0).count();
            t[5][q] = squares(o -> s.kinds.charAt(o) == 'p')
                .map(o -> Math.abs(o / 6 - square / 6) + Math.abs(o % 6 - square % 6)).min().orElse(NONE);
        }
        return t;
    }

    private static boolean so(int[][] t, int kind, int n, int square) {
        int real = t[kind][square];
        return real != NONE && (kind == 1 ? real <= n : real == n);
    }

    private static boolean keep(State s, int kind, int n) {
        int[][] t = truths(s);
        int[] then = s.likely.clone();
        for (int q = 0; q < 36; q++) if (!so(t, kind, n, q)) then[q] = 0;
        if (Arrays.stream(then).sum() == 0) return false;
        s.likely = then;
        return true;
    }

    // The calls

    int letter(int c) {
        if (c < 0) return no(-4);
        if (c > 255 || letters.length() == 96) return no(-6);
        letters += (char) c;
        return letters.length();
    }

    int sea() {
        String text = letters;
        letters = "";
        for (int end = 1; end <= text.length(); end++) {
            Matcher m = SEA.matcher(text.substring(0, end));
            if (!m.matches() && !m.hitEnd()) return -1000 - (end - 1);
        }
        if (!SEA.matcher(text).matches()) return -1000 - text.length();
        State trial = s.copy();
        int place = 0;
        String[] statements = text.split(";");
        for (String statement : statements) {
            if (!tell(trial, statement) || !trial.can(trial.home)) return -2000 - place;
            place += statement.length() + 1;
        }
        s = trial;
        return statements.length;
    }

    private static int two(String text, int at) {
        return Integer.parseInt(text.substring(at, at + 2));
    }

    private static int one(String text, int at) {
        return Integer.parseInt(text.substring(at, at + 1));
    }

    private static boolean tell(State t, String u) {
        char what = u.charAt(0);
        if (what == 'k' || what == 'v') {
            int a = two(u, 2);
            int b = what == 'k' ? a : two(u, 4);
            if (out(a, b) || a > b) return false;
            for (int q = a; q <= b; q++) t.turn(q, u.charAt(1));
        } else if (what == 'l') {
            if (out(two(u, 1), two(u, 3)) || two(u, 1) > two(u, 3)) return false;
            Arrays.fill(t.likely, two(u, 1), two(u, 3) + 1, one(u, 5));
        } else if (what == 'h') {
            if (out(two(u, 1))) return false;
            t.home = two(u, 1);
        } else if (what == 'd') {
            if (one(u, 1) == 0 || one(u, 2) == 0) return false;
            t.draught = one(u, 1);
            t.behind = one(u, 2);
        } else if (what == 'c') {
            t.cargo = two(u, 1);
            t.secret = two(u, 3);
        } else {
            return keep(t, "dbrcsp".indexOf(u.charAt(1)), two(u, 2));
        }
        return true;
    }

    int square(int square, int what) {
        if (out(square)) return no(-1);
        if (what < 0 || what > 2) return no(-2);
        if (what == 0) return "osrfcp".indexOf(s.kinds.charAt(square));
        if (what == 1) return s.can(square) ? 1 : 0;
        return s.likely[square];
    }

    int turnTo(int square, int kind) {
        if (out(square)) return no(-1);
        if (kind < 0 || kind > 5) return no(-2);
        int was = "osrfcp".indexOf(s.kinds.charAt(square));
        State trial = s.copy();
        trial.turn(square, "osrfcp".charAt(kind));
        if (!trial.can(trial.home)) return no(-3);
        s = trial;
        return was;
    }

    int make(int square, int v) {
        if (out(square)) return no(-1);
        if (v < 0) return no(-4);
        if (v > 9) return no(-6);
        int was = s.likely[square];
        s.likely[square] = v;
        return was;
    }

    int set(int what, int v) {
        if (what < 0 || what > 4) return no(-2);
        State t = s.copy();
        int was;
        if (what == 0) {
            if (out(v)) return no(-1);
            was = t.home;
            t.home = v;
        } else {
            boolean isSmall = what < 3;
            if (v < (isSmall ? 1 : 0)) return no(-4);
            if (v > (isSmall ? 9 : 99)) return no(-6);
            was = what == 1 ? t.draught : what == 2 ? t.behind : what == 3 ? t.cargo : t.secret;
            if (what == 1) t.draught = v;
            if (what == 2) t.behind = v;
            if (what == 3) t.cargo = v;
            if (what == 4) t.secret = v;
        }
        if (!t.can(t.home)) return no(-3);
        s = t;
        return was;
    }

    int learn(int kind, int n) {
        if (kind < 0 || kind > 5) return no(-2);
        if (n < 0) return no(-4);
        if (n > 99) return no(-6);
        return keep(s, kind, n) ? (int) left().count() : no(-3);
    }

    int days(int from, int to) {
        return out(from, to) ? no(-1) : told(allDays(s)[from][to]);
    }

    int way(int from, int to) {
        if (out(from, to)) return no(-1);
        int[][] d = allDays(s);
        if (from == to || d[from][to] >= FAR) return NONE;
        return squares(q -> beside(from, q) && s.can(q) && s.cost(from, q) + d[q][to] == d[from][to])
            .map(q -> wayOf(from, q)).min().orElse(NONE);
    }

    /** Every square with the way it was come to by (4: by none) and whether he was shaken off, until no day is won. */
    private int shaken(int to) {
        int[] best = new int[36 * 5 * 2];
        Arrays.fill(best, FAR);
        best[(s.home * 5 + 4) * 2] = 0;
        boolean won = true;
        while (won) {
            won = false;
            for (int i = 0; i < best.length; i++) {
                if (best[i] >= FAR) continue;
                int at = i / 10;
                int by = i / 2 % 5;
                for (int q = 0; q < 36; q++) {
                    if (!beside(at, q) || !s.can(q)) continue;
                    boolean turns = by != 4 && by != wayOf(at, q) && s.kinds.charAt(at) == 'f';
                    int next = (q * 5 + wayOf(at, q)) * 2 + (turns ? 1 : i % 2);
                    if (best[i] + s.cost(at, q) >= best[next]) continue;
                    best[next] = best[i] + s.cost(at, q);
                    won = true;
                }
            }
        }
        return told(IntStream.range(0, 5).map(by -> best[(to * 5 + by) * 2 + 1]).min().getAsInt());
    }

    int shake(int to) {
        return out(to) ? no(-1) : shaken(to);
    }

    int led(int to) {
        if (out(to)) return no(-1);
        return shaken(to) == NONE ? NONE : shaken(to) - fromHome(to);
    }

    private int wreckSquare() {
        int[] d = allDays(s)[s.home];
        return squares(q -> d[q] < FAR && squares(o -> beside(o, q) && !s.can(o)).count() > 0)
            .boxed().min((a, b) -> d[a] != d[b] ? d[a] - d[b] : a - b).orElse(NONE);
    }

    int wreck(int what) {
        if (what < 0 || what > 1) return no(-2);
        int square = wreckSquare();
        return what == 1 || square == NONE ? square : fromHome(square);
    }

    int pay(int what) {
        if (what < 0 || what > 1) return no(-2);
        int square = wreckSquare();
        if (square == NONE) return NONE;
        int pay = s.cargo + s.behind * 10 - fromHome(square);
        if (pay < 0) pay = 0;
        return what == 0 ? pay : s.secret * left().count() > pay ? 1 : 0;
    }

    private int foundAt(int square) {
        int[] d = allDays(s)[s.home];
        int[] order = left().filter(q -> d[q] < FAR).boxed()
            .sorted((a, b) -> d[a] != d[b] ? d[a] - d[b] : a - b).mapToInt(q -> q).toArray();
        int gone = 0;
        for (int q : order) {
            if (q == square) return gone + d[q];
            gone += d[q] + d[q];
        }
        return NONE;
    }

    int found(int square) {
        if (out(square)) return no(-1);
        return s.likely[square] == 0 ? no(-3) : foundAt(square);
    }

    long mean(int part) {
        if (part < 0 || part > 1) return 4000000000000000000L - no(-2);
        long above = left().filter(q -> foundAt(q) != NONE).mapToLong(q -> s.likely[q] * foundAt(q)).sum();
        long below = left().filter(q -> foundAt(q) != NONE).mapToLong(q -> s.likely[q]).sum();
        if (above == 0) return part;
        for (long by = below; by > 1; by--) {
            if (above % by == 0 && below % by == 0) {
                above /= by;
                below /= by;
            }
        }
        return part == 0 ? above : below;
    }

    int look() {
        int[] d = allDays(s)[s.home];
        return left().filter(q -> d[q] < FAR)
            .filter(q -> left().allMatch(o -> d[o] >= FAR || s.likely[q] * (d[o] + 1) >= s.likely[o] * (d[q] + 1)))
            .min().orElse(NONE);
    }

    private int sumLeft(int kind) {
        int[][] t = truths(s);
        return left().map(q -> s.likely[q] * (int) left()
            .filter(o -> t[kind][q] == NONE || so(t, kind, t[kind][q], o)).count()).sum();
    }

    int tellsMost() {
        if (left().count() == 0) return NONE;
        int least = IntStream.range(0, 6).map(this::sumLeft).min().getAsInt();
        return IntStream.range(0, 6).filter(k -> sumLeft(k) == least).min().getAsInt();
    }

    int leftBy(int kind) {
        return kind < 0 || kind > 5 ? no(-2) : sumLeft(kind);
    }

    int lie(int kind, int square) {
        if (kind < 0 || kind > 5) return no(-2);
        if (out(square)) return no(-1);
        int[][] t = truths(s);
        int[] weights = IntStream.rangeClosed(0, 40)
            .map(n -> so(t, kind, n, square) ? 0 : left().filter(q -> so(t, kind, n, q)).map(q -> s.likely[q]).sum())
            .toArray();
        int most = Arrays.stream(weights).max().getAsInt();
        return most == 0 ? NONE : IntStream.range(0, 41).filter(n -> weights[n] == most).min().getAsInt();
    }

    int known(int kind, int square) {
        if (kind < 0 || kind > 5) return no(-2);
        return out(square) ? no(-1) : truths(s)[kind][square];
    }

    int needed(int square) {
        if (out(square)) return no(-1);
        if (s.likely[square] == 0) return no(-3);
        int[][] t = truths(s);
        for (int size = 0; size <= 6; size++) {
            for (int bits = 0; bits < 64; bits++) {
                int mask = bits;
                if (Integer.bitCount(bits) != size) continue;
                IntStream kinds = IntStream.range(0, 6).filter(k -> (mask & 1 << k) != 0);
                if (kinds.anyMatch(k -> t[k][square] == NONE)) continue;
                long all = left().filter(q -> IntStream.range(0, 6)
                    .allMatch(k -> (mask & 1 << k) == 0 || so(t, k, t[k][square], q))).count();
                if (all == 1) return bits;
            }
        }
        return NONE;
    }

    int rivals(int one, int other, int to) {
        if (out(one, other, to)) return no(-1);
        int a = allDays(s)[one][to];
        int b = allDays(s)[other][to];
        if (a >= FAR && b >= FAR) return NONE;
        return a < b ? 0 : a > b ? 1 : 2;
    }

    int hide(int what) {
        if (what < 0 || what > 1) return no(-2);
        int[][] t = truths(s);
        int[] others = IntStream.range(0, 36).map(q -> s.likely[q] == 0 ? -1 : (int) left()
            .filter(o -> o != q && t[0][o] == t[0][q] && t[4][o] == t[4][q]).count()).toArray();
        int most = Arrays.stream(others).max().getAsInt();
        if (most < 0) return NONE;
        return what == 1 ? most : squares(q -> others[q] == most).min().getAsInt();
    }

    int close(int what) {
        if (what < 0 || what > 1) return no(-2);
        int[][] d = allDays(s);
        int[] near = IntStream.range(0, 36).map(h -> (int) squares(q -> d[h][q] <= s.behind).count()).toArray();
        int most = Arrays.stream(near).max().getAsInt();
        return what == 1 ? most : squares(q -> near[q] == most).min().getAsInt();
    }

    int row(int v) {
        if (v < 0) return no(-4);
        if (v > 99 || row.size() == 16) return no(-6);
        row.add(v);
        return row.size();
    }

    int judge(int what) {
        if (what < 0 || what > 3) return no(-2);
        List<Integer> way = new ArrayList<>(List.of(s.home));
        int days = 0;
        int fault = NONE;
        for (int i = 0; i < row.size() && fault == NONE; i++) {
            int at = way.get(i);
            int go = row.get(i);
            int next = squares(q -> beside(at, q) && wayOf(at, q) == go && s.can(q)).findAny().orElse(NONE);
            if (next == NONE) {
                fault = i;
            } else {
                way.add(next);
                days += s.cost(at, next);
            }
        }
        boolean shaken = IntStream.range(1, way.size() - 1)
            .anyMatch(i -> s.kinds.charAt(way.get(i)) == 'f' && !row.get(i).equals(row.get(i - 1)));
        return what == 0 ? fault : what == 1 ? way.get(way.size() - 1) : what == 2 ? days : shaken ? 1 : 0;
    }

    int fits(int what) {
        if (what < 0 || what > 1) return no(-2);
        if (row.size() % 2 == 1 || IntStream.range(0, row.size()).anyMatch(i -> i % 2 == 0 && row.get(i) > 5)) return no(-3);
        int[][] t = truths(s);
        int[] fit = left().filter(q -> IntStream.range(0, row.size() / 2)
            .allMatch(i -> so(t, row.get(2 * i), row.get(2 * i + 1), q))).toArray();
        return what == 0 ? fit.length : fit.length == 0 ? NONE : fit[0];
    }

    int clear() {
        int had = row.size();
        row.clear();
        return had;
    }

    int lots(int n, int z, int what) {
        if (n < 1) return no(-4);
        if (n > 20) return no(-6);
        if (what < 0 || what > 1) return no(-2);
        List<Integer> urn = new ArrayList<>();
        for (int q = 0; q < 36; q++) for (int i = 0; i < s.likely[q]; i++) urn.add(q);
        if (urn.isEmpty()) return no(-3);
        int[] days = new int[n];
        for (int i = 0; i < n; i++) {
            z = (int) ((long) z * 1664525L + 1013904223L);
            int found = foundAt(urn.get(((z << 1) >>> 9) % urn.size()));
            days[i] = found == NONE ? 99 : found;
        }
        return what == 0 ? Arrays.stream(days).sum() : Arrays.stream(days).max().getAsInt();
    }

    int image() {
        image = s.copy();
        return (int) left().count();
    }

    int on() {
        if (image == null) return no(-3);
        s = image.copy();
        return (int) left().count();
    }

    int count(int what) {
        int[] counts = {(int) left().count(), Arrays.stream(s.likely).sum(), s.home, s.draught, s.behind, s.cargo,
            s.secret, (int) squares(s::can).count(), row.size(), letters.length(), NONE, refused[1], refused[2],
            refused[3], refused[4], refused[5], refused[6]};
        return what < 0 || what >= counts.length ? NONE : counts[what];
    }
}
