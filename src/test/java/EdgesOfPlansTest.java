/** The bounds that the document names for PLANS, sentence by sentence: promises 26 to 35. */
public final class EdgesOfPlansTest {
    private static final int MOST = Integer.MAX_VALUE;
    private static final int LEAST = Integer.MIN_VALUE;
    private static final int[] NO_ROWS = {-1, 6, MOST, LEAST};
    private static final int[] NO_LENGTHS = {-1, 0, 4, MOST, LEAST};
    private static final String ONE = "f100g0153-";

    public static void main(String[] args) {
        plansThatCanBe();
        theFirstPlans();
        theValleyStays();
        bestPlans();
        noBestPlans();
        triesOfNoneToThirty();
        noTries();
        inTheOrderOfTries();
        safePlans();
        noSafePlan();
        safeIsRefused();
        shares();
        noShares();
        leastFood();
        noFoodIsEnough();
        foodIsRefused();
        leastHarm();
        harmIsRefused();
        whoIsFedLast();
        allAreGone();
        starveIsRefused();
        whatAGodIsWorth();
        worthBelowNought();
        priceIsRefused();
        aNewAltar();
        altarBelowNought();
        altarIsRefused();
        turnsOfTwo();
        theFirstOffering();
        ofAlikeOnesTheFirst();
        turnsAreRefused();
        Checks.end();
    }

    /** How many PLANS there are of 1, 2 and 3 DAYS: HARM is 0 in the valley, so all have their share. */
    private static void plans(Subject x, int one, int two, int three) {
        int[] want = {one, two, three};
        for (int n = 1; n <= 3; n++) {
            x.answers(want[n - 1], "share", n);
            x.fraction(1, 1);
        }
    }

    private static void plansThatCanBe() {
        Checks.says(0, "PLANS of n DAYS are rows of numbers 0 .. 12 that can be, as the VALLEY is;");
        plans(Subject.valley("f000g0150-"), 1, 1, 1);
        plans(Subject.valley("f111g0150-"), 4, 3 * 3 + 4, 3 * 7 + 13);
        plans(Subject.valley("f999g0150-g0150-g0150-g0150-"), 13, 13 * 13, 13 * 13 * 13);
        Subject asleep = Subject.valley("f999s0150-");
        plans(asleep, 4, 4, 16);
        asleep.call("rest", 1);
        plans(asleep, 1, 4, 4);
        Subject going = Subject.valley("f999o0150-");
        plans(going, 4, 16, 64);
        going.call("rest", 2);
        plans(going, 4, 3 * 4 + 1, 3 * 16 + 1);
        going.call("rest", 1);
        plans(going, 1, 1, 1);
        Subject late = Subject.valley("f999g0150-");
        late.restTill(200);
        plans(late, 4, 16, 64);
    }

    private static void theFirstPlans() {
        Checks.says(0, "the first ones are by their first numbers, then second ones, ..");
        Subject x = Subject.valley("f211g0653-g1653-");
        x.tells(30, "best", 3, 0);
        x.holds(0, 0, 0, 1);
        x.answers(1, "safe", 4, 0);
        x.holds(0, 0, 0, 1, 2);
        Subject late = Subject.valley("f001g0153-g0153-g0153-g0153-");
        late.call("rest", 1);
        late.tells(5 - 9, "best", 1, 0);
        late.holds(0, 2);
    }

    private static void theValleyStays() {
        Checks.says(0, "3 plans (from as it is; it stays).");
        Subject x = Subject.valley("f555o0153-v1142At2133Bs0524C");
        x.call("offer", 3);
        x.call("rest", 1);
        x.fill(0, 12, 1, 4);
        x.call("best", 3, 1);
        x.call("safe", 1, 2);
        long before = x.call("digest");
        int[][] lengths = {{1}, {2}, {3}};
        for (int[] n : lengths) for (String name : new String[] {"share", "food", "harm", "starve"}) x.call(name, n);
        x.call("best", 3, 1);
        x.call("tries", 0);
        x.call("safe", 1, 2);
        x.call("price", 1, 3);
        x.call("altar", 2, 1, 6, 3);
        x.call("turns", 15, 3);
        Checks.due("digest() behind all plans", x.call("digest"), before);
        Subject starved = Subject.valley(ONE);
        starved.call("rest", 9);
        starved.tells(5, "best", 1, 0);
        starved.tells(5, "best", 1, 0);
        starved.hungers(9);
        starved.stores(1, 0, 0);
    }

    private static void bestPlans() {
        Checks.says(26, "The most WORTH of PLANS of n (1 .. 3) DAYS by asked(); the first such PLAN comes to a ROW "
            + "(anew): 1.");
        Subject x = Subject.valley(ONE);
        x.call("row", 0, 60);
        x.tells(5, "best", 1, 0);
        x.holds(0, 0);
        x.tells(10, "best", 2, 0);
        x.holds(0, 0, 12);
        x.tells(15, "best", 3, 5);
        x.holds(5, 12, 0, 12);
        x.answers(2, "count", 6);
        x.call("store", 0, 0);
        x.refuses(Checks.NONE, "safe", 3, 0);
        x.tells(2, "best", 2, 0);
        x.holds(0, 12, 12);
        x.call("rest", 9);
        x.tells(-3, "best", 1, 5);
        x.holds(5, 12);
        x.tells(-9, "best", 3, 5);
        x.holds(5, 12, 12, 12);
    }

    private static void noBestPlans() {
        Checks.says(26, "BAD; STATE: no GODS.");
        Subject x = new Subject();
        x.fill(0, 7);
        for (int n : NO_LENGTHS) x.refuses(Checks.BAD, "best", n, 0);
        for (int r : NO_ROWS) x.refuses(Checks.BAD, "best", 1, r);
        x.refuses(Checks.STATE, "best", 1, 0);
        x.refuses(Checks.STATE, "best", 3, 5);
        x.settle(ONE);
        for (int n : NO_LENGTHS) x.refuses(Checks.BAD, "best", n, 0);
        for (int r : NO_ROWS) x.refuses(Checks.BAD, "best", 1, r);
        x.holds(0, 7);
    }

    private static void triesOfNoneToThirty() {
        Checks.says(27, "WORTH of a PLAN in a ROW (0 to 30 numbers), until one can't be: how many DAYS went; WORTH "
            + "by asked().");
        Subject x = Subject.valley("f100g0153-o0142-");
        x.call("row", 0, 0);
        x.answersAndTells(0, 0, "tries", 0);
        x.fillAlike(0, 30, 12);
        x.answersAndTells(30, 5 - 29 * 3 + 4 - 2 * 2, "tries", 0);
        x.fill(0, 12, 0, 12);
        x.answersAndTells(3, 15 + 4 - 2 - 2, "tries", 0);
        x.fill(0, 12, 0, 0, 12);
        x.answersAndTells(2, 10 + 4 - 2, "tries", 0);
        x.fill(0, 1, 12);
        x.answersAndTells(0, 0, "tries", 0);
        x.fill(0, 12, 12, 12, 3, 12);
        x.answersAndTells(3, 5 - 3 - 3 + 4 - 2 - 2, "tries", 0);
        x.answers(0, "count", 1);
        x.restTill(200);
        x.fill(0, 0, 12);
        x.answersAndTells(2, 10, "tries", 0);
    }

    private static void noTries() {
        Checks.says(27, "BAD; STATE: no GODS; NOTHING; SIZE; UNLIKE: a number that is none.");
        Subject x = new Subject();
        x.call("row", 0, 0);
        for (int r : NO_ROWS) x.refuses(Checks.BAD, "tries", r);
        x.refuses(Checks.STATE, "tries", 0);
        x.settle(ONE);
        x.finds(Checks.NOTHING, "tries", 1);
        x.fillAlike(1, 31, 12);
        x.finds(Checks.SIZE, "tries", 1);
        x.call("row", 1, 60);
        x.finds(Checks.SIZE, "tries", 1);
        for (int number : new int[] {-1, 3, 11, 13, MOST, LEAST}) {
            x.fill(1, 12, 1, number);
            x.finds(Checks.UNLIKE, "tries", 1);
        }
        x.fill(1, 12, 1, 2);
        x.answers(1, "tries", 1);
    }

    private static void inTheOrderOfTries() {
        Checks.says(27, "(In this order.)");
        Subject x = new Subject();
        x.refuses(Checks.BAD, "tries", 6);
        x.refuses(Checks.STATE, "tries", 0);
        x.fillAlike(0, 31, 99);
        x.refuses(Checks.STATE, "tries", 0);
        x.settle(ONE);
        x.finds(Checks.SIZE, "tries", 0);
        x.fillAlike(0, 30, 99);
        x.finds(Checks.UNLIKE, "tries", 0);
    }

    private static void safePlans() {
        Checks.says(28, "The first PLAN of n (1 .. 4) DAYS in which all HARM sent is 0 comes to a ROW (anew): 1;");
        Subject x = Subject.valley(ONE);
        x.call("row", 0, 60);
        x.answers(1, "safe", 1, 0);
        x.holds(0, 0);
        x.answers(1, "safe", 3, 0);
        x.holds(0, 12, 0, 12);
        x.answers(1, "safe", 2, 5);
        x.holds(5, 0, 12);
        x.call("store", 1, 1);
        x.answers(1, "safe", 4, 0);
        x.holds(0, 0, 12, 1, 12);
        Subject worse = Subject.valley("f900g0150-g0130A");
        worse.answers(1, "safe", 1, 0);
        worse.holds(0, 0);
        worse.answers(1, "safe", 4, 0);
        worse.holds(0, 0, 0, 0, 0);
        worse.tells(8, "best", 1, 0);
        worse.holds(0, 3);
        Subject harmless = Subject.valley("f000g0150-g0670-");
        harmless.call("rest", 2);
        harmless.answers(1, "safe", 4, 0);
        harmless.holds(0, 12, 12, 12, 12);
    }

    private static void noSafePlan() {
        Checks.says(28, "NONE: there is none.");
        Subject x = Subject.valley(ONE);
        x.fill(0, 7, 8);
        x.refuses(Checks.NONE, "safe", 4, 0);
        x.refuses(Checks.NONE, "safe", 4, 5);
        x.holds(0, 7, 8);
        x.finds(Checks.NOTHING, "at", 5, 0);
        x.call("store", 0, 0);
        x.answers(1, "safe", 1, 5);
        x.refuses(Checks.NONE, "safe", 2, 5);
        x.holds(5, 12);
        x.call("rest", 1);
        x.refuses(Checks.NONE, "safe", 1, 5);
    }

    private static void safeIsRefused() {
        Checks.says(28, "BAD; STATE.");
        Subject x = new Subject();
        for (int n : new int[] {-1, 0, 5, MOST, LEAST}) x.refuses(Checks.BAD, "safe", n, 0);
        for (int r : NO_ROWS) x.refuses(Checks.BAD, "safe", 1, r);
        for (int n = 1; n <= 4; n++) x.refuses(Checks.STATE, "safe", n, 0);
        x.settle(ONE);
        for (int n : new int[] {-1, 0, 5, MOST, LEAST}) x.refuses(Checks.BAD, "safe", n, 0);
        for (int r : NO_ROWS) x.refuses(Checks.BAD, "safe", 1, r);
    }

    private static void shares() {
        Checks.says(29, "How many PLANS of n (1 .. 3) DAYS send HARM 0 in all, of all PLANS of so many, "
            + "told by upper(), lower(): how many.");
        Subject x = Subject.valley(ONE);
        x.answers(2, "share", 1);
        x.fraction(1, 1);
        x.answers(2, "share", 2);
        x.fraction(2, 3);
        x.answers(1, "share", 3);
        x.fraction(1, 4);
        x.call("rest", 1);
        x.answers(1, "share", 1);
        x.fraction(1, 2);
        x.call("rest", 1);
        x.call("store", 0, 0);
        x.answers(0, "share", 3);
        x.fraction(0, 1);
        Subject half = Subject.valley("f100g0253-");
        half.answers(3, "share", 3);
        half.fraction(3, 4);
        half.call("rest", 1);
        half.answers(2, "share", 3);
        half.fraction(1, 2);
    }

    private static void refusedByLength(String name) {
        Subject x = new Subject();
        for (int n : NO_LENGTHS) x.refuses(Checks.BAD, name, n);
        for (int n = 1; n <= 3; n++) x.refuses(Checks.STATE, name, n);
        x.settle("f123");
        x.refuses(Checks.STATE, name, 1);
        x.settle(ONE);
        for (int n : NO_LENGTHS) x.refuses(Checks.BAD, name, n);
        for (int n = 1; n <= 3; n++) Checks.due(name + " of " + n + " is not refused", x.call(name, n) < 0 ? 1 : 0, 0);
    }

    private static void noShares() {
        Checks.says(29, "BAD; STATE.");
        refusedByLength("share");
    }

    private static void leastFood() {
        Checks.says(30, "The least FOOD (of all FOODS together) that a PLAN of n (1 .. 3) DAYS that sends HARM 0 in "
            + "all takes.");
        Subject x = Subject.valley("f110g0153-");
        x.answers(0, "food", 1);
        x.answers(1, "food", 2);
        x.answers(1, "food", 3);
        x.call("rest", 1);
        x.answers(1, "food", 1);
        x.answers(1, "food", 2);
        x.answers(2, "food", 3);
        Subject twins = Subject.valley("f900g0153-t0153A");
        twins.call("offer", 0);
        twins.call("offer", 2);
        twins.call("rest", 2);
        twins.answers(2, "food", 1);
        twins.answers(4, "food", 3);
        Subject most = Subject.valley("f990g1153-t1153At1153At1153A");
        most.call("rest", 3);
        most.answers(4, "food", 2);
        most.answers(8, "food", 3);
    }

    private static void noFoodIsEnough() {
        Checks.says(30, "NONE: there is none.");
        Subject x = Subject.valley(ONE);
        x.call("rest", 1);
        x.refuses(Checks.NONE, "food", 3);
        x.answers(1, "food", 2);
        x.call("offer", 0);
        x.call("rest", 1);
        for (int n = 1; n <= 3; n++) x.refuses(Checks.NONE, "food", n);
    }

    private static void foodIsRefused() {
        Checks.says(30, "BAD; STATE.");
        refusedByLength("food");
    }

    private static void leastHarm() {
        Checks.says(31, "The least HARM that PLANS of n (1 .. 3) DAYS send; the most GOOD of those by asked().");
        Subject x = Subject.valley(ONE);
        x.answersAndTells(0, 5, "harm", 1);
        x.answersAndTells(0, 10, "harm", 2);
        x.answersAndTells(0, 15, "harm", 3);
        x.call("store", 0, 0);
        x.answersAndTells(6, 5, "harm", 3);
        x.call("rest", 1);
        x.answersAndTells(3, 0, "harm", 1);
        x.answersAndTells(9, 0, "harm", 3);
        Subject two = Subject.valley("f100g0192-g0131-");
        two.call("rest", 1);
        two.answersAndTells(1, 9, "harm", 1);
        Subject alike = Subject.valley("f100g0132-g0152-");
        alike.call("rest", 1);
        alike.answersAndTells(2, 5, "harm", 1);
        Subject more = Subject.valley("f100g0132-g0191-");
        more.call("rest", 1);
        more.answersAndTells(1, 3, "harm", 1);
        Subject less = Subject.valley("f100g0191-g0132-");
        less.call("rest", 1);
        less.answersAndTells(1, 3, "harm", 1);
    }

    private static void harmIsRefused() {
        Checks.says(31, "BAD; STATE.");
        refusedByLength("harm");
    }

    private static void whoIsFedLast() {
        Checks.says(32, "Famine: who is fed last: the GOD (not GONE; the first) for which the most WORTH of PLANS of "
            + "n (1 .. 3) DAYS "
            + "in which it is never fed (nor with another) is least below that of best(); how much by asked().");
        Subject x = Subject.valley(ONE);
        x.answersAndTells(0, 0, "starve", 1);
        x.answersAndTells(0, 8, "starve", 2);
        x.answersAndTells(0, 16, "starve", 3);
        Subject alike = Subject.valley("f900g0153-g0153-");
        alike.answersAndTells(0, 8, "starve", 2);
        Subject second = Subject.valley("f900g0153-g0152-");
        second.answersAndTells(1, 7, "starve", 2);
        second.answersAndTells(1, 30 - (15 + 5 - 2 - 2), "starve", 3);
        Subject hungry = Subject.valley("f900g0153-g0142-");
        hungry.call("rest", 1);
        hungry.answersAndTells(1, 0, "starve", 1);
        hungry.call("rest", 1);
        hungry.answersAndTells(1, 0, "starve", 1);
        Subject gone = Subject.valley("f900o0100-g0153-");
        gone.call("rest", 3);
        gone.answersAndTells(1, 8, "starve", 1);
        Subject together = Subject.valley("f900g0190-t0101A");
        together.call("rest", 1);
        together.answersAndTells(0, 10, "starve", 1);
    }

    private static void allAreGone() {
        Checks.says(32, "NONE: all are GONE.");
        Subject x = Subject.valley("f999o0153-o0253-");
        x.call("rest", 3);
        x.answersAndTells(1, 8, "starve", 1);
        x.call("rest", 1);
        for (int n = 1; n <= 3; n++) x.refuses(Checks.NONE, "starve", n);
        x.refuses(Checks.BAD, "starve", 4);
    }

    private static void starveIsRefused() {
        Checks.says(32, "BAD; STATE.");
        refusedByLength("starve");
    }

    private static void whatAGodIsWorth() {
        Checks.says(33, "What a GOD is worth: by how much the most WORTH of PLANS of n (1 .. 3) DAYS is more than if "
            + "it were GONE,");
        Subject x = Subject.valley(ONE);
        x.tells(5, "price", 0, 1);
        x.tells(10, "price", 0, 2);
        x.tells(15, "price", 0, 3);
        Subject two = Subject.valley("f900g0153-g0142-");
        two.tells(9 - 4, "price", 0, 1);
        two.tells(9 - 5, "price", 1, 1);
        two.tells(18 - 8, "price", 0, 2);
        two.call("rest", 1);
        two.tells(5 - 2 - 4, "price", 0, 1);
        two.tells(5 - 2 - 5, "price", 1, 1);
        two.tells(3 + 9 - 8, "price", 0, 2);
        two.tells(3 + 9 - 10, "price", 1, 2);
        two.answers(0, "count", 2);
    }

    private static void worthBelowNought() {
        Checks.says(33, "told by asked() (perhaps below 0): 1.");
        Subject x = Subject.valley("f000g0109-g0153-");
        x.tells(0, "price", 0, 1);
        x.tells(-9, "price", 0, 2);
        x.tells(-18, "price", 0, 3);
        x.tells(5 - 3 - 3, "price", 1, 3);
        Subject eater = Subject.valley("f100g0159-t0101A");
        eater.call("rest", 1);
        eater.tells(-9 - 1 - 5, "price", 1, 1);
    }

    private static void priceIsRefused() {
        Checks.says(33, "BAD; STATE: it is GONE.");
        Subject x = new Subject();
        x.refuses(Checks.BAD, "price", 0, 1);
        x.settle("f999o0153-g0153-");
        for (int g : new int[] {-1, 2, MOST, LEAST}) x.refuses(Checks.BAD, "price", g, 1);
        for (int n : NO_LENGTHS) x.refuses(Checks.BAD, "price", 0, n);
        x.call("rest", 2);
        x.answers(1, "price", 0, 1);
        x.call("rest", 1);
        for (int n = 1; n <= 3; n++) x.refuses(Checks.STATE, "price", 0, n);
        for (int n : NO_LENGTHS) x.refuses(Checks.BAD, "price", 0, n);
        x.answers(1, "price", 1, 1);
    }

    private static void aNewAltar() {
        Checks.says(34, "A new altar: GOD g with another FOOD, PATIENCE as told (0 .. 2; 1 .. 6): "
            + "the most WORTH of PLANS of n (1 .. 3) DAYS then,");
        Subject x = Subject.valley("f001g0153-");
        x.call("rest", 8);
        int[] worths = {-3, -3, 5};
        for (int food = 0; food < 3; food++) x.tells(worths[food], "altar", 0, food, 1, 1);
        x.tells(-3, "altar", 0, 1, 5, 1);
        x.tells(5, "altar", 0, 1, 6, 1);
        x.tells(10, "altar", 0, 2, 1, 2);
        x.tells(15, "altar", 0, 2, 6, 3);
        x.tells(0, "god", 0, 1);
        x.tells(1, "god", 0, 2);
        x.tells(-3, "offer", 12);
    }

    private static void altarBelowNought() {
        Checks.says(34, "told by asked() (perhaps below 0): 1.");
        Subject x = Subject.valley("f000g0159-");
        x.call("rest", 9);
        for (int n = 1; n <= 3; n++) x.tells(-9 * n, "altar", 0, 0, 6, n);
    }

    private static void altarIsRefused() {
        Checks.says(34, "BAD; STATE: it is GONE.");
        Subject x = new Subject();
        x.refuses(Checks.BAD, "altar", 0, 0, 1, 1);
        x.settle("f999o0153-g0153-");
        for (int day = 0; day <= 3; day += 3) {
            x.restTill(day);
            for (int g : new int[] {-1, 2, LEAST}) x.refuses(Checks.BAD, "altar", g, 0, 1, 1);
            for (int f : new int[] {-1, 3, MOST}) x.refuses(Checks.BAD, "altar", 0, f, 1, 1);
            for (int p : new int[] {-1, 0, 7, MOST}) x.refuses(Checks.BAD, "altar", 0, 0, p, 1);
            for (int n : NO_LENGTHS) x.refuses(Checks.BAD, "altar", 0, 0, 1, n);
        }
        x.refuses(Checks.STATE, "altar", 0, 0, 1, 1);
        x.refuses(Checks.STATE, "altar", 0, 2, 6, 3);
        x.answers(1, "altar", 1, 2, 6, 3);
    }

    private static void turnsOfTwo() {
        Checks.says(35, "Two villages offer in turn, DAY by DAY (the first one on the next DAY), for n (0 .. 3) "
            + "DAYS: the first wants "
            + "what GODS of a set send (GOOD less HARM) to be much, the other one little: what it comes to, told by "
            + "asked(): 1;");
        Subject x = Subject.valley(ONE);
        x.tells(0, "turns", 1, 0);
        x.tells(5, "turns", 1, 1);
        x.tells(10, "turns", 1, 2);
        x.tells(7, "turns", 1, 3);
        for (int n = 0; n <= 3; n++) x.tells(0, "turns", 0, n);
        Subject two = Subject.valley("f900g0153-g0142-");
        two.call("rest", 1);
        two.tells(5, "turns", 1, 1);
        two.tells(4, "turns", 2, 1);
        two.tells(5 - 2, "turns", 3, 1);
        two.tells(10, "turns", 1, 2);
        Subject four = Subject.valley("f000g0112-g0134-g0156-g0178-");
        four.tells(1 + 3 + 5 + 7, "turns", 15, 1);
        four.tells(1 + 3 + 5 + 7 - 2 - 4 - 6 - 8, "turns", 15, 2);
        four.tells(3 + 7 - 4 - 8, "turns", 10, 2);
    }

    private static void theFirstOffering() {
        Checks.says(35, "the first OFFERING of the first one by upper() (lower() is 1; n 0: 12).");
        Subject x = Subject.valley("f111g1153-");
        x.call("share", 2);
        x.tells(0, "turns", 1, 0);
        x.fraction(12, 1);
        x.call("rest", 4);
        x.tells(5, "turns", 1, 1);
        x.fraction(1, 1);
        x.call("share", 2);
        x.tells(10, "turns", 1, 2);
        x.fraction(1, 1);
        for (int f = 0; f < 3; f++) x.call("store", f, 0);
        x.tells(-9, "turns", 1, 3);
        x.fraction(12, 1);
    }

    private static void ofAlikeOnesTheFirst() {
        Checks.says(35, "(Of alike ones the first.)");
        Subject x = Subject.valley("f011g0153-g0653-");
        x.tells(5, "turns", 1, 1);
        x.fraction(1, 1);
        x.tells(0, "turns", 0, 3);
        x.fraction(1, 1);
        x.call("store", 1, 0);
        x.tells(5, "turns", 2, 1);
        x.fraction(2, 1);
    }

    private static void turnsAreRefused() {
        Checks.says(35, "BAD; STATE: no GODS.");
        Subject x = new Subject();
        for (int set : new int[] {1, 15, 16, -1, MOST, LEAST}) x.refuses(Checks.BAD, "turns", set, 0);
        for (int n : new int[] {-1, 4, MOST, LEAST}) x.refuses(Checks.BAD, "turns", 0, n);
        for (int n = 0; n <= 3; n++) x.refuses(Checks.STATE, "turns", 0, n);
        String gods = "";
        for (int many = 1; many <= 4; many++) {
            gods += "g0153-";
            Subject some = Subject.valley("f000" + gods);
            some.answers(1, "turns", (1 << many) - 1, 0);
            for (int set : new int[] {1 << many, (2 << many) - 1, -1, MOST, LEAST}) some.refuses(Checks.BAD, "turns", set, 0);
            for (int n : new int[] {-1, 4, MOST, LEAST}) some.refuses(Checks.BAD, "turns", 1, n);
        }
    }
}
