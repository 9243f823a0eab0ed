/** A sea of squares, a captain whose islands of tin lie on one of them, and who follows him. */
public final class HeWreckedHimself {

    /** The answer where there is none. */
    private static final int NONE = -9;

    private static final int SIDE = 6;
    private static final int SQUARES = 36;
    private static final int NOWHERE = -1;

    private static final int WAYS = 4;
    private static final int GO_UP = 0;
    private static final int GO_LEFT = 1;
    private static final int GO_RIGHT = 2;
    private static final int GO_DOWN = 3;

    /** As many kinds of squares as of signs. */
    private static final int KINDS = 6;
    private static final int OPEN = 0;
    private static final int SHOAL = 1;
    private static final int REEF = 2;
    private static final int FOG = 3;
    private static final int CURRENT = 4;
    private static final int PORT = 5;
    private static final String KIND_LETTERS = "osrfcp";

    private static final int BY_DAYS = 0;
    private static final int BY_BREAD = 1;
    private static final int BY_ROW = 2;
    private static final int BY_COLUMN = 3;
    private static final int BY_SAND = 4;
    private static final int BY_PORT = 5;
    private static final String SIGN_LETTERS = "dbrcsp";

    private static final int REEF_DRAUGHT = 3;
    private static final int MOST_LIKELY = 9;
    private static final int MOST_NUMBER = 99;
    private static final int MOST_LIE = 40;

    /** What a captain's number is, as 'set' tells it. */
    private static final int NUMBERS = 5;
    private static final int HOME = 0;
    private static final int DRAUGHT = 1;
    private static final int BEHIND = 2;
    private static final int CARGO = 3;
    private static final int SECRET = 4;
    private static final int[] LEAST = {0, 1, 1, 0, 0};
    private static final int[] GREATEST = {35, 9, 9, 99, 99};

    private static final int NOBODY = -1;
    private static final int OTHER = -2;
    private static final int STATE = -3;
    private static final int BELOW = -4;
    private static final int ROOM = -6;
    private static final int REFUSALS = 6;
    private static final int FIRST_REFUSAL_COUNT = 11;
    private static final long LONG_REFUSAL = 4000000000000000000L;

    private static final int GREATEST_LETTER = 255;
    private static final int LETTER_ROOM = 96;
    private static final int ROW_ROOM = 16;
    private static final int GREATEST_LOTS = 20;
    private static final int LOT_NOT_FOUND = 99;
    private static final int WITHOUT_SIGN = 0x7fffffff;

    private final Sea now = new Sea();
    private final Sea trial = new Sea();
    private final Sea kept = new Sea();
    private boolean imageTaken = false;
    private final Text text = new Text();
    private final int[] told = new int[ROW_ROOM];
    private int toldSize = 0;
    private final int[] refusals = new int[REFUSALS];
    private final Pilot pilot = new Pilot();
    private final Signs signs = new Signs();
    private final Searcher searcher = new Searcher();

    public HeWreckedHimself() {
    }

    public int letter(int c) {
        if (c < 0) return refuse(BELOW);
        if (c > GREATEST_LETTER || text.isFull()) return refuse(ROOM);
        text.add(c);
        return text.size();
    }

    public int sea() {
        int answer = text.faultOfForm();
        if (answer == 0) {
            trial.takeFrom(now);
            answer = text.tellAll(trial, pilot, signs);
            if (answer > 0) now.takeFrom(trial);
        }
        text.forget();
        return answer;
    }

    public int square(int square, int what) {
        if (!isSquare(square)) return refuse(NOBODY);
        switch (what) {
            case 0: return now.kindOf(square);
            case 1: return now.canBe(square) ? 1 : 0;
            case 2: return now.likelyAt(square);
            default: return refuse(OTHER);
        }
    }

    public int turnTo(int square, int kind) {
        if (!isSquare(square)) return refuse(NOBODY);
        if (!isKind(kind)) return refuse(OTHER);
        boolean isHome = square == now.number(HOME);
        if (isHome && !Sea.canBeSailed(kind, now.number(DRAUGHT))) return refuse(STATE);
        int before = now.kindOf(square);
        now.turn(square, kind);
        return before;
    }

    public int make(int square, int v) {
        if (!isSquare(square)) return refuse(NOBODY);
        if (v < 0) return refuse(BELOW);
        if (v > MOST_LIKELY) return refuse(ROOM);
        int before = now.likelyAt(square);
        now.putLikely(square, v);
        return before;
    }

    public int set(int what, int v) {
        if (what < 0 || what >= NUMBERS) return refuse(OTHER);
        if (what == HOME && !isSquare(v)) return refuse(NOBODY);
        if (v < LEAST[what]) return refuse(BELOW);
        if (v > GREATEST[what]) return refuse(ROOM);
        int before = now.number(what);
        now.putNumber(what, v);
        if (!now.canBeAtHome()) {
            now.putNumber(what, before);
            return refuse(STATE);
        }
        return before;
    }

    public int learn(int kind, int n) {
        if (!isKind(kind)) return refuse(OTHER);
        if (n < 0) return refuse(BELOW);
        if (n > MOST_NUMBER) return refuse(ROOM);
        signs.read(now, pilot);
        if (!signs.keepOnly(now, kind, n)) return refuse(STATE);
        return now.left();
    }

    public int days(int from, int to) {
        if (!isSquare(from) || !isSquare(to)) return refuse(NOBODY);
        return daysBetween(from, to);
    }

    public int way(int from, int to) {
        if (!isSquare(from) || !isSquare(to)) return refuse(NOBODY);
        int fewest = daysBetween(from, to);
        if (fewest <= 0) return NONE;
        for (int way = 0; way < WAYS; way++) {
            int first = now.daysToGo(from, way);
            if (first == NONE) continue;
            int rest = daysBetween(Sea.beside(from, way), to);
            if (rest != NONE && first + rest == fewest) return way;
        }
        return NONE;
    }

    public int shake(int to) {
        if (!isSquare(to)) return refuse(NOBODY);
        return daysShaken(to);
    }

    public int led(int to) {
        if (!isSquare(to)) return refuse(NOBODY);
        int shaken = daysShaken(to);
        int fewest = daysBetween(now.number(HOME), to);
        return shaken == NONE || fewest == NONE ? NONE : shaken - fewest;
    }

    public int wreck(int what) {
        if (!isOneOfTwo(what)) return refuse(OTHER);
        int where = wreckSquare();
        return what == 1 ? where : pilot.daysTo(where);
    }

    public int pay(int what) {
        if (!isOneOfTwo(what)) return refuse(OTHER);
        int days = pilot.daysTo(wreckSquare());
        if (days == NONE) return NONE;
        int price = Math.max(0, now.number(CARGO) + 10 * now.number(BEHIND) - days);
        if (what == 0) return price;
        return now.number(SECRET) * now.left() > price ? 1 : 0;
    }

    public int found(int square) {
        if (!isSquare(square)) return refuse(NOBODY);
        if (now.likelyAt(square) == 0) return refuse(STATE);
        searcher.search(now, pilot);
        return searcher.daysUntil(square);
    }

    public long mean(int part) {
        if (!isOneOfTwo(part)) return LONG_REFUSAL - refuse(OTHER);
        searcher.search(now, pilot);
        long above = searcher.sumByLikely(now);
        long below = searcher.weightFound(now);
        if (below == 0) return part;
        long common = greatestCommon(above, below);
        if (common == 0) return part;
        return (part == 0 ? above : below) / common;
    }

    public int look() {
        pilot.searchFrom(now, now.number(HOME));
        int best = NONE;
        int bestLikely = 0;
        int bestDays = 1;
        for (int square = 0; square < SQUARES; square++) {
            int likely = now.likelyAt(square);
            int days = pilot.daysTo(square) + 1;
            if (likely == 0 || !pilot.comesTo(square)) continue;
            if (likely * bestDays > bestLikely * days) {
                best = square;
                bestLikely = likely;
                bestDays = days;
            }
        }
        return best;
    }

    public int tellsMost() {
        if (now.left() == 0) return NONE;
        signs.read(now, pilot);
        int best = 0;
        int least = signs.sumLeft(now, 0);
        for (int kind = 1; kind < KINDS; kind++) {
            int sum = signs.sumLeft(now, kind);
            if (sum < least) {
                best = kind;
                least = sum;
            }
        }
        return best;
    }

    public int leftBy(int kind) {
        if (!isKind(kind)) return refuse(OTHER);
        signs.read(now, pilot);
        return signs.sumLeft(now, kind);
    }

    public int lie(int kind, int square) {
        if (!isKind(kind)) return refuse(OTHER);
        if (!isSquare(square)) return refuse(NOBODY);
        signs.read(now, pilot);
        return signs.bestLie(now, kind, square);
    }

    public int known(int kind, int square) {
        if (!isKind(kind)) return refuse(OTHER);
        if (!isSquare(square)) return refuse(NOBODY);
        signs.read(now, pilot);
        return signs.numberOf(kind, square);
    }

    public int needed(int square) {
        if (!isSquare(square)) return refuse(NOBODY);
        if (now.likelyAt(square) == 0) return refuse(STATE);
        signs.read(now, pilot);
        return signs.fewestToTell(now, square);
    }

    public int rivals(int one, int other, int to) {
        if (!isSquare(one) || !isSquare(other) || !isSquare(to)) return refuse(NOBODY);
        int first = daysBetween(one, to);
        int second = daysBetween(other, to);
        if (first == NONE && second == NONE) return NONE;
        if (first == second) return 2;
        if (first == NONE) return 1;
        if (second == NONE) return 0;
        return first < second ? 0 : 1;
    }

    public int hide(int what) {
        if (!isOneOfTwo(what)) return refuse(OTHER);
        signs.read(now, pilot);
        int best = signs.bestHidden(now);
        if (best == NONE || what == 0) return best;
        return signs.othersLike(now, best);
    }

    public int close(int what) {
        if (!isOneOfTwo(what)) return refuse(OTHER);
        int best = NONE;
        int most = 0;
        for (int home = 0; home < SQUARES; home++) {
            if (!now.canBe(home)) continue;
            pilot.searchFrom(now, home);
            int near = pilot.within(now.number(BEHIND));
            if (near > most) {
                best = home;
                most = near;
            }
        }
        return what == 0 ? best : most;
    }

    public int row(int v) {
        if (v < 0) return refuse(BELOW);
        if (v > MOST_NUMBER || toldSize < 0 || toldSize >= told.length) return refuse(ROOM);
        told[toldSize] = v;
        toldSize++;
        return toldSize;
    }

    public int judge(int what) {
        if (what < 0 || what > 3) return refuse(OTHER);
        int square = now.number(HOME);
        int days = 0;
        int shaken = 0;
        int cameBy = NONE;
        int place = 0;
        while (place < toldSize) {
            int way = toldAt(place);
            int step = now.daysToGo(square, way);
            if (step == NONE) break;
            if (cameBy != NONE && cameBy != way && now.kindOf(square) == FOG) shaken = 1;
            days += step;
            square = Sea.beside(square, way);
            cameBy = way;
            place++;
        }
        switch (what) {
            case 0: return place < toldSize ? place : NONE;
            case 1: return square;
            case 2: return days;
            default: return shaken;
        }
    }

    public int fits(int what) {
        if (!isOneOfTwo(what)) return refuse(OTHER);
        if (!tellsSigns()) return refuse(STATE);
        signs.read(now, pilot);
        int least = NONE;
        int fitting = 0;
        for (int square = 0; square < SQUARES; square++) {
            if (now.likelyAt(square) == 0 || !allToldIsSo(square)) continue;
            if (least == NONE) least = square;
            fitting++;
        }
        return what == 0 ? fitting : least;
    }

    public int clear() {
        int before = toldSize;
        toldSize = 0;
        return before;
    }

    public int lots(int n, int z, int what) {
        if (n < 1) return refuse(BELOW);
        if (n > GREATEST_LOTS) return refuse(ROOM);
        if (!isOneOfTwo(what)) return refuse(OTHER);
        int weight = now.weight();
        if (weight <= 0) return refuse(STATE);
        searcher.search(now, pilot);
        int seed = z;
        int together = 0;
        int greatest = 0;
        for (int i = 0; i < n; i++) {
            seed = seed * 1664525 + 1013904223;
            int draw = (seed & WITHOUT_SIGN) / 256 % weight;
            int days = searcher.daysUntil(now.squareOfDraw(draw));
            if (days == NONE) days = LOT_NOT_FOUND;
            together += days;
            greatest = Math.max(greatest, days);
        }
        return what == 0 ? together : greatest;
    }

    public int image() {
        kept.takeFrom(now);
        imageTaken = true;
        return now.left();
    }

    public int on() {
        if (!imageTaken) return refuse(STATE);
        now.takeFrom(kept);
        return now.left();
    }

    public int count(int what) {
        switch (what) {
            case 0: return now.left();
            case 1: return now.weight();
            case 2: return now.number(HOME);
            case 3: return now.number(DRAUGHT);
            case 4: return now.number(BEHIND);
            case 5: return now.number(CARGO);
            case 6: return now.number(SECRET);
            case 7: return now.squaresToBeOn();
            case 8: return toldSize;
            case 9: return text.size();
            default: return refusalsAt(what - FIRST_REFUSAL_COUNT);
        }
    }

    private int refusalsAt(int place) {
        return place >= 0 && place < refusals.length ? refusals[place] : NONE;
    }

    private int refuse(int number) {
        int place = -number - 1;
        if (place >= 0 && place < refusals.length) refusals[place]++;
        return number;
    }

    private static boolean isSquare(int square) {
        return square >= 0 && square < SQUARES;
    }

    private static boolean isKind(int kind) {
        return kind >= 0 && kind < KINDS;
    }

    private static boolean isOneOfTwo(int what) {
        return what == 0 || what == 1;
    }

    private int daysBetween(int from, int to) {
        pilot.searchFrom(now, from);
        return pilot.daysTo(to);
    }

    private int daysShaken(int to) {
        pilot.searchShaken(now);
        return pilot.daysTo(to);
    }

    /** The pilot's days are those from home then. */
    private int wreckSquare() {
        pilot.searchFrom(now, now.number(HOME));
        int best = NONE;
        for (int square = 0; square < SQUARES; square++) {
            if (!pilot.comesTo(square) || !now.isBesideWreck(square)) continue;
            if (best == NONE || pilot.daysTo(square) < pilot.daysTo(best)) best = square;
        }
        return best;
    }

    private static long greatestCommon(long one, long other) {
        long a = one;
        long b = other;
        // Euclid's remainders of longs are none after some ninety rounds.
        for (int i = 0; i < 100 && b != 0; i++) {
            long rest = a % b;
            a = b;
            b = rest;
        }
        return a;
    }

    private int toldAt(int place) {
        return place >= 0 && place < told.length ? told[place] : NONE;
    }

    private boolean tellsSigns() {
        if (toldSize % 2 != 0) return false;
        for (int i = 0; i < toldSize; i += 2) {
            if (!isKind(toldAt(i))) return false;
        }
        return true;
    }

    private boolean allToldIsSo(int square) {
        for (int i = 0; i + 1 < toldSize; i += 2) {
            if (!signs.isTrue(toldAt(i), toldAt(i + 1), square)) return false;
        }
        return true;
    }

    /** All that an image keeps. */
    private static final class Sea {
        private final int[] kinds = new int[SQUARES];
        private final int[] likely = new int[SQUARES];
        private final int[] numbers = {0, 4, 2, 30, 9};

        Sea() {
            for (int i = 0; i < likely.length; i++) likely[i] = 1;
        }

        void takeFrom(Sea other) {
            System.arraycopy(other.kinds, 0, kinds, 0, SQUARES);
            System.arraycopy(other.likely, 0, likely, 0, SQUARES);
            System.arraycopy(other.numbers, 0, numbers, 0, NUMBERS);
        }

        static int beside(int square, int way) {
            if (square < 0 || square >= SQUARES) return NOWHERE;
            switch (way) {
                case GO_UP: return square >= SIDE ? square - SIDE : NOWHERE;
                case GO_LEFT: return square % SIDE > 0 ? square - 1 : NOWHERE;
                case GO_RIGHT: return square % SIDE < SIDE - 1 ? square + 1 : NOWHERE;
                case GO_DOWN: return square < SQUARES - SIDE ? square + SIDE : NOWHERE;
                default: return NOWHERE;
            }
        }

        static boolean canBeSailed(int kind, int draught) {
            if (kind == REEF) return draught <= REEF_DRAUGHT;
            return kind != SHOAL;
        }

        int kindOf(int square) {
            return isSquare(square) ? kinds[square] : OPEN;
        }

        void turn(int square, int kind) {
            if (isSquare(square)) kinds[square] = kind;
        }

        int likelyAt(int square) {
            return isSquare(square) ? likely[square] : 0;
        }

        void putLikely(int square, int v) {
            if (isSquare(square)) likely[square] = v;
        }

        int number(int what) {
            return what >= 0 && what < NUMBERS ? numbers[what] : 0;
        }

        void putNumber(int what, int v) {
            if (what >= 0 && what < NUMBERS) numbers[what] = v;
        }

        boolean canBe(int square) {
            return isSquare(square) && canBeSailed(kinds[square], numbers[DRAUGHT]);
        }

        boolean canBeAtHome() {
            return canBe(numbers[HOME]);
        }

        /** The days of one step, none where it can't be gone. */
        int daysToGo(int square, int way) {
            int next = beside(square, way);
            if (!isSquare(next) || !canBeSailed(kinds[next], numbers[DRAUGHT])) return NONE;
            switch (kinds[next]) {
                case REEF: return 3;
                case FOG: return 2;
                case CURRENT: return way == GO_UP ? 3 : 1;
                default: return 1;
            }
        }

        int left() {
            int squares = 0;
            for (int i = 0; i < likely.length; i++) {
                if (likely[i] > 0) squares++;
            }
            return squares;
        }

        int weight() {
            int sum = 0;
            for (int i = 0; i < likely.length; i++) sum += likely[i];
            return sum;
        }

        int squaresToBeOn() {
            int squares = 0;
            for (int square = 0; square < SQUARES; square++) {
                if (canBe(square)) squares++;
            }
            return squares;
        }

        private boolean isSand(int square) {
            int kind = kindOf(square);
            return kind == SHOAL || kind == REEF;
        }

        int sandBeside(int square) {
            int sand = 0;
            for (int way = 0; way < WAYS; way++) {
                if (isSand(beside(square, way))) sand++;
            }
            return sand;
        }

        /** A reef is a shoal, too, but wrecks only those whose draught can't sail it. */
        boolean isBesideWreck(int square) {
            for (int way = 0; way < WAYS; way++) {
                int next = beside(square, way);
                if (isSand(next) && !canBe(next)) return true;
            }
            return false;
        }

        int stepsToPort(int square) {
            int fewest = NONE;
            for (int port = 0; port < SQUARES; port++) {
                if (kindOf(port) != PORT) continue;
                int steps = Math.abs(port / SIDE - square / SIDE) + Math.abs(port % SIDE - square % SIDE);
                if (fewest == NONE || steps < fewest) fewest = steps;
            }
            return fewest;
        }

        int squareOfDraw(int draw) {
            int rest = draw;
            for (int square = 0; square < SQUARES; square++) {
                rest -= likelyAt(square);
                if (rest < 0) return square;
            }
            return NOWHERE;
        }
    }

    /** Fewest days to every square. */
    private static final class Pilot {
        private static final int FAR = 1000000;

        private final int[] fewest = new int[SQUARES];
        private final int[] before = new int[SQUARES];
        private final boolean[] settled = new boolean[SQUARES];

        void searchFrom(Sea sea, int from) {
            forget();
            if (!isSquare(from) || !sea.canBe(from)) return;
            fewest[from] = 0;
            spread(sea);
        }

        /**
         * From home by ways that turn in fog: what leads up to the first such turn, and what follows
         * it, may each be any fewest way, so the squares behind the turns are where a new search starts.
         */
        void searchShaken(Sea sea) {
            searchFrom(sea, sea.number(HOME));
            System.arraycopy(fewest, 0, before, 0, SQUARES);
            forget();
            for (int square = 0; square < SQUARES; square++) {
                for (int way = 0; way < WAYS; way++) {
                    int fog = Sea.beside(square, way);
                    int step = sea.daysToGo(square, way);
                    boolean comes = before[square] < FAR && step != NONE;
                    if (comes && sea.kindOf(fog) == FOG) offerTurns(sea, fog, way, before[square] + step);
                }
            }
            spread(sea);
        }

        private void offerTurns(Sea sea, int fog, int cameBy, int days) {
            for (int way = 0; way < WAYS; way++) {
                int step = sea.daysToGo(fog, way);
                if (way != cameBy && step != NONE) offer(Sea.beside(fog, way), days + step);
            }
        }

        private void forget() {
            for (int i = 0; i < SQUARES; i++) {
                fewest[i] = FAR;
                settled[i] = false;
            }
        }

        private void offer(int square, int days) {
            if (square >= 0 && square < SQUARES && days < fewest[square]) fewest[square] = days;
        }

        private void spread(Sea sea) {
            for (int i = 0; i < SQUARES; i++) {
                int nearest = nearestUnsettled();
                if (!isSquare(nearest)) return;
                settled[nearest] = true;
                for (int way = 0; way < WAYS; way++) {
                    int step = sea.daysToGo(nearest, way);
                    if (step != NONE) offer(Sea.beside(nearest, way), fewest[nearest] + step);
                }
            }
        }

        private int nearestUnsettled() {
            int nearest = NOWHERE;
            int days = FAR;
            for (int i = 0; i < SQUARES; i++) {
                if (!settled[i] && fewest[i] < days) {
                    nearest = i;
                    days = fewest[i];
                }
            }
            return nearest;
        }

        boolean comesTo(int square) {
            return isSquare(square) && fewest[square] < FAR;
        }

        int daysTo(int square) {
            return comesTo(square) ? fewest[square] : NONE;
        }

        int within(int days) {
            int squares = 0;
            for (int i = 0; i < SQUARES; i++) {
                if (fewest[i] <= days) squares++;
            }
            return squares;
        }
    }

    /** The number by which a sign of each kind is true of each square. */
    private static final class Signs {
        private final int[] numbers = new int[KINDS * SQUARES];

        void read(Sea sea, Pilot pilot) {
            pilot.searchFrom(sea, sea.number(HOME));
            for (int square = 0; square < SQUARES; square++) {
                put(BY_DAYS, square, pilot.daysTo(square));
                put(BY_BREAD, square, pilot.daysTo(square));
                put(BY_ROW, square, square / SIDE);
                put(BY_COLUMN, square, square % SIDE);
                put(BY_SAND, square, sea.sandBeside(square));
                put(BY_PORT, square, sea.stepsToPort(square));
            }
        }

        private void put(int kind, int square, int number) {
            if (isKind(kind) && isSquare(square)) numbers[kind * SQUARES + square] = number;
        }

        int numberOf(int kind, int square) {
            boolean isKnown = kind >= 0 && kind < KINDS && square >= 0 && square < SQUARES;
            return isKnown ? numbers[kind * SQUARES + square] : NONE;
        }

        boolean isTrue(int kind, int n, int square) {
            int number = numberOf(kind, square);
            if (number == NONE) return false;
            return kind == BY_BREAD ? number <= n : number == n;
        }

        private int leftBySign(Sea sea, int kind, int n) {
            int squares = 0;
            for (int square = 0; square < SQUARES; square++) {
                if (sea.likelyAt(square) > 0 && isTrue(kind, n, square)) squares++;
            }
            return squares;
        }

        private int weightBySign(Sea sea, int kind, int n) {
            int sum = 0;
            for (int square = 0; square < SQUARES; square++) {
                if (isTrue(kind, n, square)) sum += sea.likelyAt(square);
            }
            return sum;
        }

        /** Whether the sign leaves something; if it doesn't, the sea stays as it is. */
        boolean keepOnly(Sea sea, int kind, int n) {
            if (leftBySign(sea, kind, n) == 0) return false;
            for (int square = 0; square < SQUARES; square++) {
                if (!isTrue(kind, n, square)) sea.putLikely(square, 0);
            }
            return true;
        }

        int sumLeft(Sea sea, int kind) {
            int all = sea.left();
            int sum = 0;
            for (int square = 0; square < SQUARES; square++) {
                int likely = sea.likelyAt(square);
                if (likely == 0) continue;
                int number = numberOf(kind, square);
                sum += likely * (number == NONE ? all : leftBySign(sea, kind, number));
            }
            return sum;
        }

        int bestLie(Sea sea, int kind, int square) {
            int best = NONE;
            int most = 0;
            for (int n = 0; n <= MOST_LIE; n++) {
                if (isTrue(kind, n, square)) continue;
                int weight = weightBySign(sea, kind, n);
                if (weight > most) {
                    best = n;
                    most = weight;
                }
            }
            return best;
        }

        int fewestToTell(Sea sea, int square) {
            int best = NONE;
            int fewest = KINDS + 1;
            for (int kinds = 0; kinds < 1 << KINDS; kinds++) {
                int size = Integer.bitCount(kinds);
                if (size < fewest && tellsAlone(sea, kinds, square)) {
                    best = kinds;
                    fewest = size;
                }
            }
            return best;
        }

        private boolean tellsAlone(Sea sea, int kinds, int square) {
            if (!suit(kinds, square, square)) return false;
            for (int other = 0; other < SQUARES; other++) {
                if (other != square && sea.likelyAt(other) > 0 && suit(kinds, square, other)) return false;
            }
            return true;
        }

        /** Whether the signs of these kinds, true of a square, are so of another one; not, if it has none of a kind. */
        private boolean suit(int kinds, int square, int other) {
            for (int kind = 0; kind < KINDS; kind++) {
                if ((kinds >> kind & 1) == 0) continue;
                if (!isTrue(kind, numberOf(kind, square), other)) return false;
            }
            return true;
        }

        int bestHidden(Sea sea) {
            int best = NONE;
            int most = -1;
            for (int square = 0; square < SQUARES; square++) {
                if (sea.likelyAt(square) == 0) continue;
                int others = othersLike(sea, square);
                if (others > most) {
                    best = square;
                    most = others;
                }
            }
            return best;
        }

        int othersLike(Sea sea, int square) {
            int others = 0;
            for (int other = 0; other < SQUARES; other++) {
                if (other == square || sea.likelyAt(other) == 0) continue;
                boolean daysAlike = numberOf(BY_DAYS, square) == numberOf(BY_DAYS, other);
                if (daysAlike && numberOf(BY_SAND, square) == numberOf(BY_SAND, other)) others++;
            }
            return others;
        }
    }

    /** Who goes from home to what is left, and back each time. */
    private static final class Searcher {
        private final int[] until = new int[SQUARES];

        void search(Sea sea, Pilot pilot) {
            for (int i = 0; i < SQUARES; i++) until[i] = NONE;
            pilot.searchFrom(sea, sea.number(HOME));
            int gone = 0;
            for (int i = 0; i < SQUARES; i++) {
                int next = nextOf(sea, pilot);
                if (!isSquare(next)) return;
                until[next] = gone + pilot.daysTo(next);
                gone += 2 * pilot.daysTo(next);
            }
        }

        private int nextOf(Sea sea, Pilot pilot) {
            int next = NOWHERE;
            for (int square = 0; square < SQUARES; square++) {
                boolean waits = until[square] == NONE && sea.likelyAt(square) > 0 && pilot.comesTo(square);
                if (!waits) continue;
                if (next == NOWHERE || pilot.daysTo(square) < pilot.daysTo(next)) next = square;
            }
            return next;
        }

        int daysUntil(int square) {
            return isSquare(square) ? until[square] : NONE;
        }

        long sumByLikely(Sea sea) {
            long sum = 0;
            for (int square = 0; square < SQUARES; square++) {
                if (until[square] != NONE) sum += (long) sea.likelyAt(square) * until[square];
            }
            return sum;
        }

        long weightFound(Sea sea) {
            long sum = 0;
            for (int square = 0; square < SQUARES; square++) {
                if (until[square] != NONE) sum += sea.likelyAt(square);
            }
            return sum;
        }
    }

    /** The letters that tell a sea. */
    private static final class Text {
        private static final int NO_FORM = -1000;
        private static final int NOT_AS_IT_MUST_BE = -2000;

        private final int[] letters = new int[LETTER_ROOM];
        private int size = 0;

        int size() {
            return size;
        }

        boolean isFull() {
            return size < 0 || size >= letters.length;
        }

        void add(int c) {
            if (isFull()) return;
            letters[size] = c;
            size++;
        }

        void forget() {
            size = 0;
        }

        /** Behind the end there is a letter that nothing goes on with. */
        private int letterAt(int place) {
            return place >= 0 && place < size && place < letters.length ? letters[place] : -1;
        }

        /** What follows a statement's first letter: K a kind, S a sign, 0 a digit; nothing behind other letters. */
        private static String formBehind(int first) {
            switch (first) {
                case 'k': return "K00;";
                case 'v': return "K0000;";
                case 'l': return "00000;";
                case 'h':
                case 'd': return "00;";
                case 'c': return "0000;";
                case 's': return "S00;";
                default: return "";
            }
        }

        private static boolean suitsForm(char form, int letter) {
            if (letter < 0) return false;
            switch (form) {
                case 'K': return KIND_LETTERS.indexOf((char) letter) >= 0;
                case 'S': return SIGN_LETTERS.indexOf((char) letter) >= 0;
                case '0': return letter >= '0' && letter <= '9';
                default: return letter == form;
            }
        }

        /** 0 if the letters are statements, at least one. */
        int faultOfForm() {
            int place = 0;
            do {
                String form = formBehind(letterAt(place));
                if (form.isEmpty()) return NO_FORM - place;
                place++;
                for (int i = 0; i < form.length(); i++) {
                    if (!suitsForm(form.charAt(i), letterAt(place))) return NO_FORM - place;
                    place++;
                }
            } while (place < size);
            return 0;
        }

        /** How many statements, or the fault; the letters have no fault of form. */
        int tellAll(Sea sea, Pilot pilot, Signs signs) {
            int statements = 0;
            int place = 0;
            while (place < size) {
                if (letterAt(place) == 's') signs.read(sea, pilot);
                if (!tellOne(sea, signs, place)) return NOT_AS_IT_MUST_BE - place;
                place += 1 + formBehind(letterAt(place)).length();
                statements++;
            }
            return statements;
        }

        /** The signs are those of this sea. */
        private boolean tellOne(Sea sea, Signs signs, int place) {
            int kind = codeAt(KIND_LETTERS, place + 1);
            switch (letterAt(place)) {
                case 'k': return turnAll(sea, twoDigits(place + 2), twoDigits(place + 2), kind);
                case 'v': return turnAll(sea, twoDigits(place + 2), twoDigits(place + 4), kind);
                case 'l': return makeAll(sea, twoDigits(place + 1), twoDigits(place + 3), digit(place + 5));
                case 'h': return putNumber(sea, HOME, twoDigits(place + 1));
                case 'd': return putNumber(sea, DRAUGHT, digit(place + 1)) && putNumber(sea, BEHIND, digit(place + 2));
                case 'c':
                    return putNumber(sea, CARGO, twoDigits(place + 1)) && putNumber(sea, SECRET, twoDigits(place + 3));
                case 's': return signs.keepOnly(sea, codeAt(SIGN_LETTERS, place + 1), twoDigits(place + 2));
                default: return false;
            }
        }

        private static boolean isRange(int first, int last) {
            return isSquare(first) && isSquare(last) && first <= last;
        }

        private static boolean turnAll(Sea sea, int first, int last, int kind) {
            if (!isRange(first, last) || !isKind(kind)) return false;
            for (int square = first; square <= last; square++) sea.turn(square, kind);
            return sea.canBeAtHome();
        }

        private static boolean makeAll(Sea sea, int first, int last, int v) {
            if (!isRange(first, last)) return false;
            for (int square = first; square <= last; square++) sea.putLikely(square, v);
            return true;
        }

        private static boolean putNumber(Sea sea, int what, int v) {
            if (what < 0 || what >= NUMBERS || v < LEAST[what] || v > GREATEST[what]) return false;
            sea.putNumber(what, v);
            return sea.canBeAtHome();
        }

        private int codeAt(String codes, int place) {
            int letter = letterAt(place);
            return letter < 0 ? NOWHERE : codes.indexOf((char) letter);
        }

        private int digit(int place) {
            return letterAt(place) - '0';
        }

        private int twoDigits(int place) {
            return 10 * digit(place) + digit(place + 1);
        }
    }
}
