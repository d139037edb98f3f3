import java.util.Arrays;

/** Small gods of a valley at one altar, who send good or harm as they were served of late. */
public final class OfferTurn {
    public static final int BAD = -1, FULL = -2, FINDING = -3, STATE = -4, SPENT = -6, NONE = -9;

    private static final int NOTHING = 1, BEYOND = 2, UNLIKE = 3, NOUGHT = 4, SIZE = 5;
    private static final int TWIN = 1, JEALOUS = 2, SLEEPER = 3, FOREIGN = 4, FORGOTTEN = 5;

    private static final int LONGEST_ROW = 60;
    private static final int MISSING = -1;
    private static final int BLANK = 32;
    private static final int PUT_ANSWER = 1000;

    private static final int FOODS = 3;
    private static final int MOST_STORES = 99;
    private static final int MOST_GODS = 4;
    private static final int MOST_HUNGER = 9;
    private static final int MOST_PATIENCE = 6;
    private static final int NO_OFFERING = 12;
    private static final int MOST_DAYS = 200;
    private static final int LONGEST_REST = 30;
    private static final int LONGEST_BOOK = 30;
    private static final int LONGEST_PLAN = 3;
    private static final int LONGEST_SAFE_PLAN = 4;
    private static final int LONGEST_YEAR = 100;
    private static final int DRAW_FACTOR = 48271;
    private static final int DRAW_MODULUS = 2147483647;

    private final Shelf rows = new Shelf(new int[6][LONGEST_ROW]);
    private final Shelf texts = new Shelf(new int[4][LONGEST_ROW]);
    private final Reader reader = new Reader();
    private final Village village = new Village();
    private final Village[] keptOnes = {new Village(), new Village(), new Village()};
    private final Plans plans = new Plans();
    private final Gods otherGods = new Gods();
    private final Scene trial = new Scene();
    private final int[] worthsByPatience = new int[MOST_PATIENCE + 1];
    private final int[] findingCounts = new int[SIZE + 1];
    private int latestFinding = 0;
    private int told = 0;
    private long above = 0;
    private long below = 1;

    public OfferTurn() {
    }

    // ---- 1 rows, texts, valleys

    public int row(int r, int n) {
        if (!rows.has(r) || n > LONGEST_ROW) return BAD;
        if (n < 0) return found(SIZE);
        rows.make(r, n, 0);
        return n;
    }

    public int lay(int r, int i, int v) {
        if (!rows.has(r)) return BAD;
        int refused = placeRefused(rows, r, i);
        if (refused != 0) return refused;
        tell(rows.read(r, i));
        rows.write(r, i, v);
        return 1;
    }

    public int at(int r, int i) {
        if (!rows.has(r)) return BAD;
        int refused = placeRefused(rows, r, i);
        if (refused != 0) return refused;
        tell(rows.read(r, i));
        return 1;
    }

    public int tear(int r) {
        if (!rows.has(r)) return BAD;
        if (!rows.isThere(r)) return found(NOTHING);
        rows.drop(r);
        return 1;
    }

    public int copy(int r, int i, int to, int j, int n) {
        if (!rows.has(r) || !rows.has(to)) return BAD;
        if (n < 0) return found(SIZE);
        if (!rows.isThere(r) || !rows.isThere(to)) return found(NOTHING);
        if (!rows.holds(r, i, n) || !rows.holds(to, j, n)) return found(BEYOND);
        rows.carry(r, i, to, j, n);
        return 1;
    }

    public int mean(int r) {
        if (!rows.has(r)) return BAD;
        if (!rows.isThere(r)) return found(NOTHING);
        int size = rows.size(r);
        if (size <= 0) return found(NOUGHT);
        tell((int) (rows.total(r) / size));
        return 1;
    }

    public int text(int t, int n) {
        if (!texts.has(t) || n > LONGEST_ROW) return BAD;
        if (n < 0) return found(SIZE);
        texts.make(t, n, BLANK);
        return n;
    }

    public int put(int t, int i, int v) {
        if (!texts.has(t)) return BAD;
        int refused = placeRefused(texts, t, i);
        if (refused != 0) return refused;
        int before = texts.read(t, i);
        texts.write(t, i, (byte) v);
        return before + PUT_ANSWER;
    }

    public int fault(int t) {
        if (!texts.has(t)) return BAD;
        if (!texts.isThere(t)) return found(NOTHING);
        return reader.firstFault(texts, t);
    }

    public int valley(int t) {
        if (!texts.has(t)) return BAD;
        if (!texts.isThere(t)) return found(NOTHING);
        if (reader.firstFault(texts, t) != NONE) return STATE;
        village.begin(reader.gods, reader.stores);
        for (int k = 0; k < keptOnes.length; k++) keptOnes[k].isKept = false;
        return village.gods.many;
    }

    public int god(int g, int what) {
        if (!village.gods.has(g) || what < 0 || what > 6) return BAD;
        tell(traitOf(g, what));
        return 1;
    }

    public int mark(int g, int kind) {
        if (!village.gods.has(g) || kind < TWIN || kind > FORGOTTEN) return BAD;
        if (!village.gods.isOfKind(g, kind)) return found(UNLIKE);
        switch (kind) {
            case TWIN:
                return village.gods.neighbours[g];
            case JEALOUS:
                return village.daysSinceFed(village.gods.neighbours[g]);
            case SLEEPER:
                return village.now.isOddDay() ? 1 : 0;
            case FOREIGN:
                return shortOfGoing(g);
            default:
                return village.now.wasEverFed(g) ? 1 : 0;
        }
    }

    public int store(int f, int v) {
        if (!isFood(f) || v < 0 || v > MOST_STORES) return BAD;
        if (noGods()) return STATE;
        int before = village.now.stores[f];
        village.now.stores[f] = v;
        return before;
    }

    public int stores(int f) {
        if (!isFood(f)) return BAD;
        return village.now.stores[f];
    }

    public int patience(int g, int v) {
        if (!village.gods.has(g) || !isPatience(v)) return BAD;
        int before = village.gods.patiences[g];
        village.gods.patiences[g] = v;
        return before;
    }

    // ---- 2 days

    public int offer(int number) {
        if (!village.gods.hasNumber(number)) return BAD;
        if (noGods() || village.now.costOf(village.gods, number) == NONE) return STATE;
        if (village.now.day >= MOST_DAYS) return FULL;
        tell(village.spendDay(number));
        return 1;
    }

    public int may(int number) {
        if (!village.gods.hasNumber(number)) return BAD;
        if (noGods()) return STATE;
        return village.now.costOf(village.gods, number);
    }

    public int rest(int n) {
        if (n < 0 || n > LONGEST_REST) return BAD;
        if (noGods()) return STATE;
        if (village.now.day + n > MOST_DAYS) return FULL;
        int worth = 0;
        for (int i = 0; i < n; i++) worth += village.spendDay(NO_OFFERING);
        tell(worth);
        return 1;
    }

    public int sent(int day, int g) {
        if (day < 0 || !village.gods.has(g)) return BAD;
        if (day >= village.now.day) return found(BEYOND);
        tell(village.sentOn(day, g));
        return 1;
    }

    public int offered(int day) {
        if (day < 0) return BAD;
        if (day >= village.now.day) return found(BEYOND);
        return village.offeringOn(day);
    }

    public int undo(int day) {
        int days = village.now.day;
        if (day < 0 || day > days) return BAD;
        village.goBackTo(day);
        return days - day;
    }

    public int sums() {
        tell(village.now.harm);
        return village.now.good;
    }

    public int keep(int k) {
        if (!isKeepingPlace(k)) return BAD;
        if (noGods()) return STATE;
        keptOnes[k].take(village);
        keptOnes[k].isKept = true;
        return village.now.day;
    }

    public int on(int k) {
        if (!isKeepingPlace(k)) return BAD;
        if (!keptOnes[k].isKept) return found(NOTHING);
        village.take(keptOnes[k]);
        return village.now.day;
    }

    // ---- 3 plans

    public int best(int n, int r) {
        if (!isPlanLength(n) || !rows.has(r)) return BAD;
        if (noGods()) return STATE;
        plans.seekAll(village.gods, village.now, n);
        tell(plans.most);
        rows.fill(r, plans.bestPlan, n);
        return 1;
    }

    public int tries(int r) {
        if (!rows.has(r)) return BAD;
        if (noGods()) return STATE;
        if (!rows.isThere(r)) return found(NOTHING);
        if (rows.size(r) > LONGEST_BOOK) return found(SIZE);
        if (!holdsNumbersOnly(r)) return found(UNLIKE);
        startTrial();
        int days = 0;
        for (int i = 0; i < rows.size(r); i++) {
            if (!trial.goOn(village.gods, rows.read(r, i))) break;
            days++;
        }
        tell(trial.worth());
        return days;
    }

    public int safe(int n, int r) {
        if (n < 1 || n > LONGEST_SAFE_PLAN || !rows.has(r)) return BAD;
        if (noGods()) return STATE;
        plans.seekHarmless(village.gods, village.now, n, true);
        if (plans.found == 0) return NONE;
        rows.fill(r, plans.bestPlan, n);
        return 1;
    }

    public int share(int n) {
        if (!isPlanLength(n)) return BAD;
        if (noGods()) return STATE;
        plans.seekAll(village.gods, village.now, n);
        tellFraction(plans.harmlessFound, plans.found);
        return plans.harmlessFound;
    }

    public int food(int n) {
        if (!isPlanLength(n)) return BAD;
        if (noGods()) return STATE;
        plans.seekHarmless(village.gods, village.now, n, false);
        return plans.found == 0 ? NONE : plans.leastTaken;
    }

    public int harm(int n) {
        if (!isPlanLength(n)) return BAD;
        if (noGods()) return STATE;
        plans.seekAll(village.gods, village.now, n);
        tell(plans.mostGood);
        return plans.leastHarm;
    }

    public int starve(int n) {
        if (!isPlanLength(n)) return BAD;
        if (noGods()) return STATE;
        plans.seekAll(village.gods, village.now, n);
        int most = plans.most;
        int last = NONE;
        int least = 0;
        for (int g = 0; g < village.gods.many; g++) {
            if (village.now.isGone(g)) continue;
            plans.seekUnfed(village.gods, village.now, n, g);
            int loss = most - plans.most;
            if (last == NONE || loss < least) {
                last = g;
                least = loss;
            }
        }
        if (last != NONE) tell(least);
        return last;
    }

    public int price(int g, int n) {
        if (!village.gods.has(g) || !isPlanLength(n)) return BAD;
        if (village.now.isGone(g)) return STATE;
        plans.seekAll(village.gods, village.now, n);
        int with = plans.most;
        startTrial();
        trial.sendAway(g);
        plans.seekAll(village.gods, trial, n);
        tell(with - plans.most);
        return 1;
    }

    public int altar(int g, int food, int patience, int n) {
        if (!village.gods.has(g) || !isFood(food) || !isPatience(patience) || !isPlanLength(n)) return BAD;
        if (village.now.isGone(g)) return STATE;
        otherGods.take(village.gods);
        otherGods.foods[g] = food;
        otherGods.patiences[g] = patience;
        plans.seekAll(otherGods, village.now, n);
        tell(plans.most);
        return 1;
    }

    public int turns(int set, int n) {
        if ((set & ~village.gods.all) != 0 || n < 0 || n > LONGEST_PLAN) return BAD;
        if (noGods()) return STATE;
        tell(plans.duel(village.gods, village.now, n, set));
        tellFraction(n == 0 ? NO_OFFERING : plans.firstOfDuel(), 1);
        return 1;
    }

    // ---- 4 a book of what was sent

    public int fits(int g, int r, int worths) {
        if (!village.gods.has(g) || !rows.has(r) || !rows.has(worths)) return BAD;
        int refused = bookRefused(r, worths);
        return refused != 0 ? refused : fittingPatiences(g, r, worths);
    }

    public int whose(int r, int worths) {
        if (!rows.has(r) || !rows.has(worths)) return BAD;
        if (noGods()) return STATE;
        int refused = bookRefused(r, worths);
        if (refused != 0) return refused;
        int whoCanBe = 0;
        int ways = 0;
        for (int g = 0; g < village.gods.many; g++) {
            int others = fittingPatiences(g, r, worths) & ~(1 << village.gods.patiences[g]);
            if (others != 0) whoCanBe |= 1 << g;
            ways += Integer.bitCount(others);
        }
        tell(ways);
        return whoCanBe;
    }

    public int ask(int g) {
        if (!village.gods.has(g)) return BAD;
        if (village.now.isGone(g)) return STATE;
        int telling = NO_OFFERING;
        int fewest = MOST_PATIENCE + 1;
        for (int number = 0; number <= NO_OFFERING; number++) {
            if (village.now.costOf(village.gods, number) == NONE) continue;
            int left = mostLeftBy(g, number);
            if (left < fewest) {
                fewest = left;
                telling = number;
            }
        }
        tell(fewest);
        return telling;
    }

    public int year(int seed, int n) {
        if (seed < 1 || seed >= DRAW_MODULUS || n < 1 || n > LONGEST_YEAR) return BAD;
        if (noGods()) return STATE;
        startTrial();
        long drawn = seed;
        int harmed = 0;
        for (int i = 0; i < n; i++) {
            drawn = drawn * DRAW_FACTOR % DRAW_MODULUS;
            int harmBefore = trial.harm;
            if (!trial.goOn(village.gods, (int) (drawn % 13))) trial.goOn(village.gods, NO_OFFERING);
            if (trial.harm > harmBefore) harmed++;
        }
        tell(trial.worth());
        tellFraction(harmed, 1);
        return 1;
    }

    // ---- 5 what is told

    public int asked() {
        return told;
    }

    public long upper() {
        return above;
    }

    public long lower() {
        return below;
    }

    public int count(int what) {
        switch (what) {
            case 0:
                return village.gods.many;
            case 1:
                return village.now.day;
            case 2:
                return Integer.bitCount(village.now.gone);
            case 3:
                return village.gods.howManyOfKind(JEALOUS);
            case 4:
                return village.gods.howManyOfKind(SLEEPER);
            case 5:
                return howManyKept();
            case 6:
                return rows.howManyThere();
            case 7:
                return texts.howManyThere();
            default:
                return BAD;
        }
    }

    public int finding() {
        return latestFinding;
    }

    public int findings(int f) {
        if (f < NOTHING || f > SIZE) return BAD;
        return findingCounts[f];
    }

    public long digest() {
        long h = 17;
        for (int what = 0; what <= 7; what++) h = 31 * h + count(what);
        for (int f = 0; f < FOODS; f++) h = 31 * h + village.now.stores[f];
        for (int g = 0; g < village.gods.many; g++) {
            for (int what = 0; what <= 6; what++) h = 31 * h + traitOf(g, what);
            h = 31 * h + (village.now.wasEverFed(g) ? 1 : 0);
        }
        h = 31 * h + village.now.good;
        h = 31 * h + village.now.harm;
        for (int day = 0; day < village.now.day; day++) h = 31 * h + village.offeringOn(day);
        for (int k = 0; k < keptOnes.length; k++) h = 31 * h + (keptOnes[k].isKept ? keptOnes[k].now.day : MISSING);
        return texts.digestOnto(rows.digestOnto(h));
    }

    // ---- what the calls share

    private int found(int finding) {
        if (finding >= NOTHING && finding <= SIZE) {
            latestFinding = finding;
            findingCounts[finding]++;
        }
        return FINDING;
    }

    private void tell(int value) {
        told = value;
    }

    private void tellFraction(int upperPart, int lowerPart) {
        int divisor = Math.max(1, greatestCommonDivisor(upperPart, lowerPart));
        above = upperPart / divisor;
        below = lowerPart / divisor;
    }

    private static int greatestCommonDivisor(int one, int other) {
        int a = one;
        int b = other;
        for (int i = 0; i < 64 && b != 0; i++) {
            int left = a % b;
            a = b;
            b = left;
        }
        return a;
    }

    private boolean noGods() {
        return village.gods.many == 0;
    }

    private static boolean isFood(int f) {
        return f >= 0 && f < FOODS;
    }

    private static boolean isPatience(int v) {
        return v >= 1 && v <= MOST_PATIENCE;
    }

    private static boolean isPlanLength(int n) {
        return n >= 1 && n <= LONGEST_PLAN;
    }

    private boolean isKeepingPlace(int k) {
        return k >= 0 && k < keptOnes.length;
    }

    private int placeRefused(Shelf shelf, int r, int i) {
        if (!shelf.isThere(r)) return found(NOTHING);
        return shelf.holds(r, i, 1) ? 0 : found(BEYOND);
    }

    private int traitOf(int g, int what) {
        Gods gods = village.gods;
        switch (what) {
            case 0:
                return gods.kinds[g];
            case 1:
                return gods.foods[g];
            case 2:
                return gods.patiences[g];
            case 3:
                return gods.goods[g];
            case 4:
                return gods.harms[g];
            case 5:
                return gods.neighbours[g];
            default:
                return village.now.isGone(g) ? NONE : village.now.hungers[g];
        }
    }

    private int shortOfGoing(int g) {
        if (village.now.isGone(g)) return NONE;
        return Math.max(0, village.gods.leavingHunger(g) - village.now.hungers[g]);
    }

    private int howManyKept() {
        int many = 0;
        for (int k = 0; k < keptOnes.length; k++) if (keptOnes[k].isKept) many++;
        return many;
    }

    private void startTrial() {
        trial.take(village.now);
        trial.forgetSums();
    }

    private boolean holdsNumbersOnly(int r) {
        for (int i = 0; i < rows.size(r); i++) if (!village.gods.hasNumber(rows.read(r, i))) return false;
        return true;
    }

    private int bookRefused(int r, int worths) {
        if (!rows.isThere(r) || !rows.isThere(worths)) return found(NOTHING);
        if (rows.size(r) > LONGEST_BOOK || rows.size(r) != rows.size(worths)) return found(SIZE);
        return holdsNumbersOnly(r) ? 0 : found(UNLIKE);
    }

    private int fittingPatiences(int g, int r, int worths) {
        int fitting = 0;
        otherGods.take(village.gods);
        for (int p = 1; p <= MOST_PATIENCE; p++) {
            otherGods.patiences[g] = p;
            if (bookFitsOthers(r, worths)) fitting |= 1 << p;
        }
        return fitting;
    }

    private boolean bookFitsOthers(int r, int worths) {
        startTrial();
        for (int i = 0; i < rows.size(r); i++) {
            int before = trial.worth();
            if (!trial.goOn(otherGods, rows.read(r, i))) return false;
            if (trial.worth() - before != rows.read(worths, i)) return false;
        }
        return true;
    }

    /** Of the PATIENCES that answer an OFFERING alike, as many as the largest such group has. */
    private int mostLeftBy(int g, int number) {
        otherGods.take(village.gods);
        int most = 0;
        for (int p = 1; p <= MOST_PATIENCE; p++) {
            otherGods.patiences[g] = p;
            startTrial();
            trial.goOn(otherGods, number);
            worthsByPatience[p] = trial.worth();
            int alike = 0;
            for (int q = 1; q <= p; q++) if (worthsByPatience[q] == worthsByPatience[p]) alike++;
            most = Math.max(most, alike);
        }
        return most;
    }

    /** Rows that are there or missing. TEXTS lie on a shelf of their own, each byte as an int. */
    private static final class Shelf {
        private final int[][] places;
        private final int[] sizes;

        Shelf(int[][] places) {
            this.places = places;
            this.sizes = new int[places.length];
            Arrays.fill(sizes, MISSING);
        }

        boolean has(int r) {
            return r >= 0 && r < sizes.length;
        }

        boolean isThere(int r) {
            return has(r) && sizes[r] != MISSING;
        }

        int size(int r) {
            return isThere(r) ? sizes[r] : 0;
        }

        /** Whether n places from i on are there; with n 0 the end is a place, too. */
        boolean holds(int r, int i, int n) {
            return isThere(r) && i >= 0 && i <= sizes[r] && n >= 0 && n <= sizes[r] - i;
        }

        int read(int r, int i) {
            return holds(r, i, 1) ? places[r][i] : 0;
        }

        void write(int r, int i, int v) {
            if (holds(r, i, 1)) places[r][i] = v;
        }

        void make(int r, int n, int v) {
            if (!has(r) || n < 0 || n > places[r].length) return;
            sizes[r] = n;
            Arrays.fill(places[r], 0, n, v);
        }

        void fill(int r, int[] from, int n) {
            if (n < 0 || n > from.length) return;
            make(r, n, 0);
            for (int i = 0; i < n; i++) write(r, i, from[i]);
        }

        void drop(int r) {
            if (has(r)) sizes[r] = MISSING;
        }

        void carry(int r, int i, int to, int j, int n) {
            if (holds(r, i, n) && holds(to, j, n)) System.arraycopy(places[r], i, places[to], j, n);
        }

        long total(int r) {
            long sum = 0;
            for (int i = 0; i < size(r); i++) sum += read(r, i);
            return sum;
        }

        int howManyThere() {
            int many = 0;
            for (int r = 0; r < sizes.length; r++) if (isThere(r)) many++;
            return many;
        }

        long digestOnto(long start) {
            long h = start;
            for (int r = 0; r < sizes.length; r++) {
                h = 31 * h + sizes[r];
                for (int i = 0; i < size(r); i++) h = 31 * h + read(r, i);
            }
            return h;
        }
    }

    /** What stays of the GODS while DAYS go by. Sets of them are bits. */
    private static final class Gods {
        int many = 0;
        int all = 0;
        int sleepers = 0;
        final int[] kinds = new int[MOST_GODS];
        final int[] foods = new int[MOST_GODS];
        final int[] patiences = new int[MOST_GODS];
        final int[] goods = new int[MOST_GODS];
        final int[] harms = new int[MOST_GODS];
        /** Whom one can't ABIDE, or a TWIN's OTHER, or NONE. */
        final int[] neighbours = new int[MOST_GODS];
        /** Who is fed when one is offered to: itself, and its TWINS. */
        final int[] tables = new int[MOST_GODS];
        /** Whose being fed makes one hungrier; a TWIN minds nobody. */
        final int[] foes = new int[MOST_GODS];
        /** By how much hungrier, besides the 1 of each DAY. */
        final int[] spites = new int[MOST_GODS];

        boolean has(int g) {
            return g >= 0 && g < many;
        }

        boolean hasNumber(int number) {
            return number == NO_OFFERING || number >= 0 && number < FOODS * many;
        }

        boolean isOfKind(int g, int kind) {
            if (!has(g)) return false;
            int own = kinds[g];
            return own == kind || own == FOREIGN && kind == JEALOUS || own == FORGOTTEN && kind == SLEEPER;
        }

        int howManyOfKind(int kind) {
            int found = 0;
            for (int g = 0; g < many; g++) if (isOfKind(g, kind)) found++;
            return found;
        }

        int leavingHunger(int g) {
            return patiences[g] + 2;
        }

        /** To be called when KINDS and neighbours are all known, as a later TWIN sits at an earlier GOD's table. */
        void settle() {
            all = (1 << many) - 1;
            sleepers = 0;
            for (int g = 0; g < many; g++) {
                tables[g] = 1 << g;
                foes[g] = 0;
                spites[g] = isOfKind(g, JEALOUS) ? 2 : 1;
                if (isOfKind(g, SLEEPER)) sleepers |= 1 << g;
            }
            for (int g = 0; g < many; g++) {
                int neighbour = neighbours[g];
                if (!has(neighbour)) continue;
                if (kinds[g] == TWIN) {
                    tables[g] |= 1 << neighbour;
                    tables[neighbour] |= 1 << g;
                } else {
                    foes[g] = 1 << neighbour;
                }
            }
        }

        void take(Gods from) {
            many = from.many;
            all = from.all;
            sleepers = from.sleepers;
            for (int g = 0; g < MOST_GODS; g++) {
                kinds[g] = from.kinds[g];
                foods[g] = from.foods[g];
                patiences[g] = from.patiences[g];
                goods[g] = from.goods[g];
                harms[g] = from.harms[g];
                neighbours[g] = from.neighbours[g];
                tables[g] = from.tables[g];
                foes[g] = from.foes[g];
                spites[g] = from.spites[g];
            }
        }
    }

    /** Reads a VALLEY from a TEXT, as far as it goes; what it read counts only if there was no FAULT. */
    private static final class Reader {
        private static final int[] KIND_LETTERS = {'g', 't', 'j', 's', 'o', 'v'};
        private static final int END = -1000;

        final Gods gods = new Gods();
        final int[] stores = new int[FOODS];
        private final int[] signs = new int[LONGEST_ROW];
        private int size = 0;
        private int place = 0;
        private int stop = NONE;

        int firstFault(Shelf texts, int t) {
            size = Math.min(texts.size(t), LONGEST_ROW);
            for (int i = 0; i < size; i++) signs[i] = texts.read(t, i);
            place = 0;
            stop = NONE;
            gods.many = 0;
            readStores();
            readGods();
            gods.settle();
            return stop;
        }

        private void readStores() {
            skipBlanks();
            if (sign() != 'f') {
                stop = place;
                return;
            }
            place++;
            for (int f = 0; f < FOODS; f++) stores[f] = figure(0, 9);
        }

        private void readGods() {
            for (int g = 0; g <= MOST_GODS; g++) {
                skipBlanks();
                if (stop != NONE || place >= size) return;
                if (g == MOST_GODS) {
                    stop = place;
                    return;
                }
                readGod(g);
            }
        }

        private void readGod(int g) {
            if (g < 0 || g >= MOST_GODS) return;
            gods.kinds[g] = kind();
            gods.foods[g] = figure(0, FOODS - 1);
            gods.patiences[g] = figure(1, MOST_PATIENCE);
            gods.goods[g] = figure(0, 9);
            gods.harms[g] = figure(0, 9);
            gods.neighbours[g] = neighbour(g, gods.kinds[g] == TWIN);
            gods.many = g + 1;
        }

        /** The sign at the place, or one that no byte is: so an end too early is refused like a wrong sign. */
        private int sign() {
            return place >= 0 && place < size ? signs[place] : END;
        }

        private void skipBlanks() {
            while (stop == NONE && place < size && sign() == BLANK) place++;
        }

        private int kind() {
            for (int k = 0; k < KIND_LETTERS.length; k++) {
                if (sign() == KIND_LETTERS[k]) {
                    place++;
                    return k;
                }
            }
            stop = place;
            return 0;
        }

        private int figure(int low, int high) {
            if (stop != NONE) return low;
            int value = sign() - '0';
            if (value < low || value > high) {
                stop = place;
                return low;
            }
            place++;
            return value;
        }

        private int neighbour(int g, boolean isNeeded) {
            if (stop != NONE) return NONE;
            int letter = sign() - 'A';
            boolean isTold = letter >= 0 && letter < g;
            if (!isTold && (isNeeded || sign() != '-')) {
                stop = place;
                return NONE;
            }
            place++;
            return isTold ? letter : NONE;
        }
    }

    /** All that a DAY changes: as it is ahead of DAY day. */
    private static final class Scene {
        /** How many ints save() takes. */
        static final int WIDTH = 4 + FOODS + MOST_GODS;

        int day = 0;
        int gone = 0;
        int everFed = 0;
        int good = 0;
        int harm = 0;
        /** All FOOD since forgetSums(): only PLANS ask for it, so save() leaves it out. */
        int taken = 0;
        final int[] stores = new int[FOODS];
        final int[] hungers = new int[MOST_GODS];
        /** Who was fed on the latest DAY, and what each sent on it. */
        int fed = 0;
        final int[] sendings = new int[MOST_GODS];

        void begin(int[] firstStores) {
            day = 0;
            gone = 0;
            everFed = 0;
            fed = 0;
            forgetSums();
            Arrays.fill(hungers, 0);
            Arrays.fill(sendings, 0);
            for (int f = 0; f < FOODS && f < firstStores.length; f++) stores[f] = firstStores[f];
        }

        void forgetSums() {
            good = 0;
            harm = 0;
            taken = 0;
        }

        void take(Scene from) {
            day = from.day;
            gone = from.gone;
            everFed = from.everFed;
            good = from.good;
            harm = from.harm;
            taken = from.taken;
            for (int f = 0; f < FOODS; f++) stores[f] = from.stores[f];
            for (int g = 0; g < MOST_GODS; g++) hungers[g] = from.hungers[g];
        }

        void save(int[] lines, int start) {
            if (start < 0 || start > lines.length - WIDTH) return;
            lines[start] = gone;
            lines[start + 1] = everFed;
            lines[start + 2] = good;
            lines[start + 3] = harm;
            System.arraycopy(stores, 0, lines, start + 4, FOODS);
            System.arraycopy(hungers, 0, lines, start + 4 + FOODS, MOST_GODS);
        }

        void load(int[] lines, int start) {
            if (start < 0 || start > lines.length - WIDTH) return;
            gone = lines[start];
            everFed = lines[start + 1];
            good = lines[start + 2];
            harm = lines[start + 3];
            System.arraycopy(lines, start + 4, stores, 0, FOODS);
            System.arraycopy(lines, start + 4 + FOODS, hungers, 0, MOST_GODS);
        }

        boolean isGone(int g) {
            return (gone >> g & 1) != 0;
        }

        boolean wasEverFed(int g) {
            return (everFed >> g & 1) != 0;
        }

        boolean isOddDay() {
            return (day & 1) != 0;
        }

        void sendAway(int g) {
            gone |= 1 << g;
        }

        int worth() {
            return good - harm;
        }

        /** What the GODS of a set sent on the latest DAY. */
        int sentBy(int set) {
            int worth = 0;
            for (int g = 0; g < MOST_GODS; g++) if ((set >> g & 1) != 0) worth += sendings[g];
            return worth;
        }

        private int awake(Gods gods) {
            int sleeping = (day & 1) != 0 ? gods.sleepers : 0;
            return gods.all & ~gone & ~sleeping;
        }

        /** Who an OFFERING feeds; nobody, if its GOD is not awake. */
        private int fedBy(Gods gods, int number) {
            int g = number / FOODS;
            if (number < 0 || number == NO_OFFERING || !gods.has(g)) return 0;
            int awake = awake(gods);
            return (awake >> g & 1) != 0 ? gods.tables[g] & awake : 0;
        }

        /** How much FOOD an OFFERING costs; NONE, if it can't be. */
        int costOf(Gods gods, int number) {
            if (number == NO_OFFERING) return 0;
            int cost = Integer.bitCount(fedBy(gods, number));
            return cost == 0 || cost > stores[number % FOODS] ? NONE : cost;
        }

        /** One DAY; false, and nothing changed, if its OFFERING can't be. */
        boolean goOn(Gods gods, int number) {
            int cost = costOf(gods, number);
            if (cost == NONE) return false;
            spendDay(gods, number, cost);
            return true;
        }

        /** One DAY with an OFFERING that can be, at what costOf() answers. */
        void spendDay(Gods gods, int number, int cost) {
            int eaten = Math.max(0, number % FOODS);
            int awake = awake(gods);
            fed = fedBy(gods, number);
            stores[eaten] -= cost;
            taken += cost;
            everFed |= fed;
            for (int g = 0; g < gods.many; g++) {
                sendings[g] = 0;
                if ((awake >> g & 1) == 0) continue;
                hungers[g] = hungerAfter(gods, g, eaten);
                send(gods, g);
                if (gods.kinds[g] == FOREIGN && hungers[g] >= gods.leavingHunger(g)) sendAway(g);
            }
            day++;
        }

        private int hungerAfter(Gods gods, int g, int eaten) {
            if ((fed >> g & 1) != 0) return eaten == gods.foods[g] ? 0 : Math.max(0, hungers[g] - 2);
            int rise = (gods.foes[g] & fed) != 0 ? 1 + gods.spites[g] : 1;
            return Math.min(MOST_HUNGER, hungers[g] + rise);
        }

        private void send(Gods gods, int g) {
            if (gods.kinds[g] == FORGOTTEN && !wasEverFed(g)) return;
            if (hungers[g] <= gods.patiences[g]) {
                sendings[g] = gods.goods[g];
                good += gods.goods[g];
            } else {
                sendings[g] = -gods.harms[g];
                harm += gods.harms[g];
            }
        }
    }

    /** A VALLEY with all its DAYS, each with the Scene ahead of it: PATIENCES may have changed since. */
    private static final class Village {
        private static final int NUMBER = 0, FED = 1, SENT = 2, AHEAD = SENT + MOST_GODS;
        private static final int LINE = AHEAD + Scene.WIDTH;

        final Gods gods = new Gods();
        final Scene now = new Scene();
        boolean isKept = false;
        private final int[] diary = new int[MOST_DAYS * LINE];

        void begin(Gods newGods, int[] stores) {
            gods.take(newGods);
            now.begin(stores);
        }

        void take(Village from) {
            gods.take(from.gods);
            now.take(from.now);
            int used = from.now.day * LINE;
            if (used >= 0 && used <= diary.length) System.arraycopy(from.diary, 0, diary, 0, used);
        }

        /** A DAY goes by: its WORTH. */
        int spendDay(int number) {
            if (now.day < 0 || now.day >= MOST_DAYS) return 0;
            int line = now.day * LINE;
            int before = now.worth();
            now.save(diary, line + AHEAD);
            if (!now.goOn(gods, number)) return 0;
            diary[line + NUMBER] = number;
            diary[line + FED] = now.fed;
            System.arraycopy(now.sendings, 0, diary, line + SENT, MOST_GODS);
            return now.worth() - before;
        }

        void goBackTo(int day) {
            if (day < 0 || day >= now.day) return;
            now.load(diary, day * LINE + AHEAD);
            now.day = day;
        }

        int offeringOn(int day) {
            return noted(day, NUMBER);
        }

        int sentOn(int day, int g) {
            return gods.has(g) ? noted(day, SENT + g) : 0;
        }

        /** How many DAYS ago a GOD was fed (0: on the latest DAY). */
        int daysSinceFed(int g) {
            if (!gods.has(g)) return NONE;
            int latest = now.day - 1;
            for (int day = latest; day >= 0; day--) if ((noted(day, FED) >> g & 1) != 0) return latest - day;
            return NONE;
        }

        private int noted(int day, int column) {
            return day >= 0 && day < now.day && day < MOST_DAYS ? diary[day * LINE + column] : 0;
        }
    }

    /** Walks through PLANS, in their order, on scenes of its own. */
    private static final class Plans {
        /** The scene ahead of each DAY of the PLAN, and the one behind it. */
        private final Scene[] scenes = {new Scene(), new Scene(), new Scene(), new Scene(), new Scene()};
        private final int[] numbers = new int[LONGEST_SAFE_PLAN];
        private int days = 0;
        private int unfed = 0;
        private boolean isHarmless = false;
        private boolean isFirstEnough = false;

        int found = 0;
        int harmlessFound = 0;
        int most = 0;
        int leastHarm = 0;
        int mostGood = 0;
        int leastTaken = 0;
        /** The first of those with the most WORTH. */
        final int[] bestPlan = new int[LONGEST_SAFE_PLAN];

        void seekAll(Gods gods, Scene from, int n) {
            start(from, n);
            walk(this, gods, 0);
        }

        void seekHarmless(Gods gods, Scene from, int n, boolean onlyFirst) {
            start(from, n);
            isHarmless = true;
            isFirstEnough = onlyFirst;
            walk(this, gods, 0);
        }

        void seekUnfed(Gods gods, Scene from, int n, int g) {
            start(from, n);
            unfed = 1 << g;
            walk(this, gods, 0);
        }

        int duel(Gods gods, Scene from, int n, int set) {
            start(from, n);
            return valueOfDuel(this, gods, set, 0);
        }

        int firstOfDuel() {
            return numbers[0];
        }

        private void start(Scene from, int n) {
            scenes[0].take(from);
            scenes[0].forgetSums();
            days = Math.max(0, Math.min(n, LONGEST_SAFE_PLAN));
            unfed = 0;
            isHarmless = false;
            isFirstEnough = false;
            found = 0;
            harmlessFound = 0;
        }

        private static void walk(Plans plans, Gods gods, int depth) {
            if (depth >= plans.days) {
                plans.weigh(plans.scenes[plans.days]);
                return;
            }
            for (int number = 0; number <= NO_OFFERING; number++) {
                if (plans.isFirstEnough && plans.found > 0) return;
                if (plans.goOn(gods, depth, number) && plans.isWanted(depth + 1)) walk(plans, gods, depth + 1);
            }
        }

        /** One more DAY of the PLAN, its scenes as far as depth being there; false, if it can't be. */
        private boolean goOn(Gods gods, int depth, int number) {
            if (depth < 0 || depth >= numbers.length) return false;
            int cost = scenes[depth].costOf(gods, number);
            if (cost == NONE) return false;
            scenes[depth + 1].take(scenes[depth]);
            scenes[depth + 1].spendDay(gods, number, cost);
            numbers[depth] = number;
            return true;
        }

        /** Whether a PLAN may begin so: HARM that was sent stays, and so does having been fed. */
        private boolean isWanted(int depth) {
            if (depth < 0 || depth >= scenes.length) return false;
            return (scenes[depth].fed & unfed) == 0 && (!isHarmless || scenes[depth].harm == 0);
        }

        private void weigh(Scene end) {
            boolean isFirst = found == 0;
            found++;
            if (end.harm == 0) harmlessFound++;
            if (isFirst || end.taken < leastTaken) leastTaken = end.taken;
            if (isFirst || end.harm < leastHarm || end.harm == leastHarm && end.good > mostGood) {
                leastHarm = end.harm;
                mostGood = end.good;
            }
            if (isFirst || end.worth() > most) {
                most = end.worth();
                System.arraycopy(numbers, 0, bestPlan, 0, bestPlan.length);
            }
        }

        private static int valueOfDuel(Plans plans, Gods gods, int set, int depth) {
            if (depth < 0 || depth >= plans.days || depth >= plans.numbers.length) return 0;
            boolean wantsMuch = (depth & 1) == 0;
            int chosen = NONE;
            int value = 0;
            for (int number = 0; number <= NO_OFFERING; number++) {
                if (!plans.goOn(gods, depth, number)) continue;
                int here = plans.scenes[depth + 1].sentBy(set) + valueOfDuel(plans, gods, set, depth + 1);
                if (chosen == NONE || (wantsMuch ? here > value : here < value)) {
                    chosen = number;
                    value = here;
                }
            }
            plans.numbers[depth] = chosen;
            return value;
        }
    }
}
