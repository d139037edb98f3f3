/** The bounds that the document names for ANSWERS, FINDINGS and what is told, sentence by sentence: promises 40 to 46. */
public final class EdgesOfTellingTest {
    private static final int MOST = Integer.MAX_VALUE;
    private static final int LEAST = Integer.MIN_VALUE;
    private static final String FOUR = "f555o0153-v1142At2133Bs0524C";

    public static void main(String[] args) {
        numbersOfAnswers();
        badAheadOfAll();
        stateAheadOfFindings();
        unlessACallSaysSo();
        aRowStays();
        refusedChangesNothing();
        refusedChangesNothingOnTheLastDay();
        nothingIsFound();
        beyondIsFound();
        unlikeIsFound();
        noughtIsFound();
        sizeIsFound();
        lowestTerms();
        setsByBits();
        noGods();
        nothingWasAskedBefore();
        whatTells();
        whatDoesNotTell();
        upperAndLowerBefore();
        upperAndLowerStay();
        counts();
        countsOfTheMost();
        noCounts();
        findings();
        howOften();
        howOftenIsRefused();
        digestOfNothing();
        digestOfAll();
        digestTellsMissingFromEmpty();
        askedStays();
        Checks.end();
    }

    private static void numbersOfAnswers() {
        Checks.says(0, "======== ANSWERS. Refused is, the first of these that fits, in this order: BAD -1 "
            + "(a number that is none, or not as told), FULL -2, STATE -4 (not now), SPENT -6 (more than told), "
            + "FINDING -3 (finding() tells which),");
        Subject x = new Subject();
        x.answers(-1, "row", 6, 0);
        x.answers(-3, "row", 0, -1);
        x.answers(-4, "offer", 12);
        x.settle("f000g0153-");
        x.answers(-9, "may", 0);
        x.restTill(200);
        x.answers(-2, "offer", 12);
        int[] constants = {OfferTurn.BAD, OfferTurn.FULL, OfferTurn.STATE, OfferTurn.SPENT, OfferTurn.FINDING, OfferTurn.NONE};
        int[] want = {-1, -2, -4, -6, -3, -9};
        for (int i = 0; i < want.length; i++) Checks.due("constant " + i, constants[i], want[i]);
    }

    private static void badAheadOfAll() {
        Checks.says(0, "in this order: BAD -1");
        Subject x = new Subject();
        x.refuses(Checks.BAD, "row", 6, -1);
        x.refuses(Checks.BAD, "text", 4, -1);
        x.refuses(Checks.BAD, "lay", 6, -1, 0);
        x.refuses(Checks.BAD, "store", 3, 0);
        x.refuses(Checks.BAD, "offer", 13);
        x.refuses(Checks.BAD, "may", 13);
        x.refuses(Checks.BAD, "rest", 31);
        x.refuses(Checks.BAD, "sent", 0, 0);
        x.refuses(Checks.BAD, "keep", 3);
        x.refuses(Checks.BAD, "best", 4, 0);
        x.refuses(Checks.BAD, "tries", 6);
        x.refuses(Checks.BAD, "safe", 5, 0);
        for (String name : new String[] {"share", "food", "harm", "starve"}) x.refuses(Checks.BAD, name, 4);
        x.refuses(Checks.BAD, "turns", 0, 4);
        x.refuses(Checks.BAD, "whose", 6, 0);
        x.refuses(Checks.BAD, "year", 0, 1);
        Subject last = Subject.valley("f999o0153-");
        last.restTill(200);
        last.refuses(Checks.BAD, "offer", 3);
        last.refuses(Checks.BAD, "rest", 31);
        last.refuses(Checks.BAD, "price", 0, 4);
        last.refuses(Checks.BAD, "altar", 0, 3, 1, 1);
        last.refuses(Checks.BAD, "sent", 200, 1);
        last.refuses(Checks.BAD, "mark", 0, 0);
        last.refuses(Checks.BAD, "fits", 0, 0, 6);
    }

    private static void stateAheadOfFindings() {
        Checks.says(0, "STATE -4 (not now), SPENT -6 (more than told), FINDING -3");
        Subject x = new Subject();
        x.refuses(Checks.STATE, "tries", 0);
        x.refuses(Checks.STATE, "whose", 0, 1);
        x.fillAlike(0, 31, 99);
        x.refuses(Checks.STATE, "tries", 0);
        x.refuses(Checks.STATE, "whose", 0, 1);
    }

    private static void unlessACallSaysSo() {
        Checks.says(0, "unless a call says so otherwise.");
        Subject x = Subject.valley("f000g0153-");
        x.restTill(200);
        x.refuses(Checks.STATE, "offer", 0);
        x.finds(Checks.NOTHING, "valley", 0);
        x.finds(Checks.SIZE, "copy", 0, 0, 1, 0, -1);
    }

    private static void aRowStays() {
        Checks.says(0, "NONE -9 (a ROW that something was to come to stays as it is then).");
        Subject x = Subject.valley("f000g0153-");
        x.call("rest", 1);
        x.fill(0, 7, 8, 9);
        for (int n = 1; n <= 4; n++) {
            x.refuses(Checks.NONE, "safe", n, 0);
            x.refuses(Checks.NONE, "safe", n, 5);
        }
        x.holds(0, 7, 8, 9);
        x.finds(Checks.NOTHING, "at", 5, 0);
    }

    private static void refusedChangesNothing() {
        Checks.says(0, "What is refused changes nothing but finding(), findings().");
        for (int bad : new int[] {-1, 7777, MOST, LEAST}) {
            Subject x = rich();
            x.refuses(Checks.BAD, "row", bad, 1);
            x.refuses(Checks.BAD, "lay", bad, 0, 1);
            x.refuses(Checks.BAD, "tear", bad);
            x.refuses(Checks.BAD, "copy", 0, 0, bad, 0, 1);
            x.refuses(Checks.BAD, "text", bad, 1);
            x.refuses(Checks.BAD, "put", bad, 0, 1);
            x.refuses(Checks.BAD, "valley", bad);
            x.refuses(Checks.BAD, "god", bad, 0);
            x.refuses(Checks.BAD, "store", 0, bad);
            x.refuses(Checks.BAD, "patience", 1, bad);
            x.refuses(Checks.BAD, "offer", bad);
            x.refuses(Checks.BAD, "rest", bad);
            x.refuses(Checks.BAD, "sent", 0, bad);
            x.refuses(Checks.BAD, "undo", bad);
            x.refuses(Checks.BAD, "keep", bad);
            x.refuses(Checks.BAD, "on", bad);
            x = rich();
            x.refuses(Checks.BAD, "best", bad, 0);
            x.refuses(Checks.BAD, "best", 1, bad);
            x.refuses(Checks.BAD, "tries", bad);
            x.refuses(Checks.BAD, "safe", bad, 0);
            x.refuses(Checks.BAD, "safe", 1, bad);
            for (String name : new String[] {"share", "food", "harm", "starve", "count", "findings"}) x.refuses(Checks.BAD, name, bad);
            x.refuses(Checks.BAD, "price", bad, 1);
            x.refuses(Checks.BAD, "altar", 1, 0, bad, 1);
            x.refuses(Checks.BAD, "turns", 1, bad);
            x.refuses(Checks.BAD, "fits", bad, 0, 0);
            x.refuses(Checks.BAD, "whose", bad, 0);
            x.refuses(Checks.BAD, "ask", bad);
            x.refuses(Checks.BAD, "year", 1, bad);
        }
    }

    /** A valley with rows, texts, a kept place and a GOD that is GONE, when a fraction and a number have been told. */
    private static Subject rich() {
        Subject x = Subject.valley(FOUR);
        x.fill(0, 12, 3, 4);
        x.write(1, "f1x");
        x.call("keep", 1);
        x.call("offer", 3);
        x.call("rest", 3);
        x.call("share", 1);
        x.call("best", 2, 3);
        return x;
    }

    private static void refusedChangesNothingOnTheLastDay() {
        Checks.says(0, "What is refused changes nothing but finding(), findings().");
        Subject x = rich();
        x.refuses(Checks.STATE, "valley", 1);
        x.finds(Checks.NOTHING, "valley", 2);
        x.refuses(Checks.STATE, "offer", 0);
        x.refuses(Checks.STATE, "price", 0, 1);
        x.refuses(Checks.STATE, "altar", 0, 1, 2, 1);
        x.refuses(Checks.STATE, "ask", 0);
        x.finds(Checks.NOTHING, "on", 0);
        x.finds(Checks.UNLIKE, "mark", 0, 1);
        x.restTill(200);
        x.refuses(Checks.FULL, "offer", 12);
        x.refuses(Checks.FULL, "offer", 3);
        x.refuses(Checks.FULL, "rest", 1);
        x.refuses(Checks.STATE, "offer", 0);
    }

    private static void nothingIsFound() {
        Checks.says(0, "FINDINGS: 1 NOTHING (a ROW, a TEXT, a kept VALLEY that is missing),");
        Subject x = Subject.valley(FOUR);
        x.call("row", 0, 1);
        for (String name : new String[] {"tear", "mean", "tries"}) x.finds(1, name, 1);
        x.finds(1, "lay", 1, 0, 0);
        x.finds(1, "at", 1, 0);
        x.finds(1, "copy", 0, 0, 1, 0, 0);
        x.finds(1, "copy", 1, 0, 0, 0, 0);
        x.finds(1, "put", 0, 0, 0);
        for (String name : new String[] {"fault", "valley"}) x.finds(1, name, 0);
        x.finds(1, "on", 0);
        x.finds(1, "fits", 0, 0, 1);
        x.finds(1, "whose", 1, 0);
    }

    private static void beyondIsFound() {
        Checks.says(0, "2 BEYOND (a place that there is not),");
        Subject x = Subject.valley(FOUR);
        x.call("row", 0, 1);
        x.finds(2, "lay", 0, 1, 0);
        x.finds(2, "at", 0, -1);
        x.finds(2, "copy", 0, 0, 0, 1, 1);
        x.finds(2, "put", 3, 0, 0);
        x.finds(2, "sent", 0, 0);
        x.finds(2, "offered", 0);
    }

    private static void unlikeIsFound() {
        Checks.says(0, "3 UNLIKE (a GOD of another KIND; a number that is none),");
        Subject x = Subject.valley(FOUR);
        x.fill(0, 13);
        x.finds(3, "mark", 0, 1);
        x.finds(3, "mark", 3, 5);
        x.finds(3, "tries", 0);
        x.finds(3, "fits", 0, 0, 0);
        x.finds(3, "whose", 0, 0);
    }

    private static void noughtIsFound() {
        Checks.says(0, "4 NOUGHT (shared among none),");
        Subject x = new Subject();
        x.call("row", 0, 0);
        x.finds(4, "mean", 0);
    }

    private static void sizeIsFound() {
        Checks.says(0, "5 SIZE (fewer than none; not as many as due).");
        Subject x = Subject.valley(FOUR);
        x.finds(5, "row", 0, -1);
        x.finds(5, "text", 0, -1);
        x.finds(5, "copy", 0, 0, 0, 0, -1);
        x.call("row", 0, 31);
        x.call("row", 1, 30);
        x.finds(5, "tries", 0);
        x.finds(5, "fits", 0, 0, 0);
        x.finds(5, "fits", 0, 1, 0);
        x.finds(5, "whose", 0, 0);
        x.finds(5, "whose", 0, 1);
    }

    private static void lowestTerms() {
        Checks.says(0, "Fractions are told by upper(), lower(), in lowest terms, the lower number above 0 (0 by 1).");
        Subject x = Subject.valley("f111g0153-");
        x.call("rest", 1);
        x.answers(3, "share", 1);
        x.fraction(3, 4);
        x.answers(9, "share", 2);
        x.fraction(9, 13);
        x.answers(18, "share", 3);
        x.fraction(9, 17);
        Subject nought = Subject.valley("f000g0153-");
        nought.call("rest", 1);
        nought.answers(0, "share", 1);
        nought.fraction(0, 1);
        Subject whole = Subject.valley("f999g0650-g0650-g0650-g0650-");
        whole.answers(2197, "share", 3);
        whole.fraction(1, 1);
    }

    private static void setsByBits() {
        Checks.says(0, "Sets are told by bits.");
        Subject x = Subject.valley("f000g0112-g0134-g0156-g0178-");
        int[] goods = {1, 3, 5, 7};
        for (int set = 0; set < 16; set++) {
            int want = 0;
            for (int g = 0; g < 4; g++) if ((set >> g & 1) != 0) want += goods[g];
            x.tells(want, "turns", set, 1);
        }
        x.fill(0, 12);
        x.fill(1, 1 + 3 + 5 + 7);
        x.answers(126, "fits", 2, 0, 1);
        x.answers(15, "whose", 0, 1);
    }

    private static void noGods() {
        Checks.says(0, "No GODS: count(0) is 0.");
        Subject x = new Subject();
        x.answers(0, "count", 0);
        x.refuses(Checks.STATE, "offer", 12);
        x.settle(FOUR);
        x.answers(4, "count", 0);
        x.answers(1, "offer", 12);
        x.settle("f999");
        x.answers(0, "count", 0);
        x.refuses(Checks.STATE, "offer", 12);
        x.refuses(Checks.BAD, "offer", 0);
        x.refuses(Checks.BAD, "god", 0, 0);
    }

    private static void nothingWasAskedBefore() {
        Checks.says(40, "0 before.");
        Subject x = new Subject();
        x.answers(0, "asked");
        x.call("at", 0, 0);
        x.call("god", 0, 0);
        x.call("row", 0, 0);
        x.call("mean", 0);
        x.call("offer", 12);
        x.answers(0, "asked");
    }

    private static void whatTells() {
        Checks.says(40, "What the latest lay(), at(), mean(), god(), offer(), rest(), sent(), sums(), best(), "
            + "tries(), harm(), starve(), "
            + "price(), altar(), turns(), whose(), ask(), year()");
        Subject x = Subject.valley("f100g0253-");
        x.fill(0, 7, 9);
        x.tells(9, "lay", 0, 1, 5);
        x.tells(7, "at", 0, 0);
        x.tells(6, "mean", 0);
        x.tells(2, "god", 0, 2);
        x.tells(5, "offer", 12);
        x.tells(2, "rest", 2);
        x.tells(-3, "sent", 2, 0);
        x.answersAndTells(10, 3, "sums");
        x.tells(15, "best", 3, 1);
        x.answersAndTells(3, 15, "tries", 1);
        x.answersAndTells(0, 5, "harm", 1);
        x.answersAndTells(0, 8, "starve", 1);
        x.tells(10, "price", 0, 2);
        x.tells(5, "altar", 0, 1, 4, 1);
        x.tells(15, "turns", 1, 3);
        x.fill(2, 12);
        x.fill(3, -3);
        x.answersAndTells(1, 2, "whose", 2, 3);
        x.answersAndTells(12, 3, "ask", 0);
        x.tells(-3, "year", 1, 1);
    }

    private static void whatDoesNotTell() {
        Checks.says(40, "that was not refused (nor NONE) told;");
        Subject x = Subject.valley("f999j0153-o1142At2133Bv0124C");
        x.fill(0, 12, 12);
        x.call("text", 0, 4);
        x.tells(1, "god", 0, 2);
        x.answers(3, "row", 5, 3);
        x.answers(1, "copy", 0, 0, 5, 0, 1);
        x.answers(1, "tear", 5);
        x.answers(4, "text", 2, 4);
        x.answers(1032, "put", 2, 0, 5);
        x.answers(0, "fault", 2);
        x.refuses(Checks.NONE, "mark", 0, 2);
        x.answers(1, "mark", 2, 1);
        x.answers(9, "store", 0, 8);
        x.answers(8, "stores", 0);
        x.answers(1, "patience", 0, 2);
        x.answers(1, "may", 0);
        x.answers(0, "undo", 0);
        x.answers(0, "keep", 1);
        x.answers(0, "on", 1);
        x.answers(1, "safe", 1, 2);
        x.answers(10, "share", 1);
        x.answers(0, "food", 1);
        x.answers(0, "fits", 0, 0, 0);
        x.answers(4, "count", 0);
        x.answers(1, "asked");
        Subject gone = Subject.valley("f999o0153-");
        gone.tells(5 - 3 - 3, "rest", 3);
        gone.refuses(Checks.NONE, "starve", 1);
        gone.refuses(Checks.STATE, "price", 0, 1);
        gone.refuses(Checks.BAD, "god", 1, 0);
        gone.finds(Checks.NOTHING, "at", 0, 0);
        gone.answers(12, "offered", 0);
        gone.settle("f000g0153-");
        gone.answers(-1, "asked");
    }

    private static void upperAndLowerBefore() {
        Checks.says(41, "The upper number of what was told last; 0 before.");
        Subject x = Subject.valley("f100g0153-");
        x.call("best", 2, 0);
        x.call("harm", 2);
        x.answers(0, "upper");
        x.call("share", 2);
        x.answers(2, "upper");
        Checks.says(42, "Its lower number; 1 before.");
        Subject y = Subject.valley("f100g0153-");
        y.call("best", 2, 0);
        y.call("harm", 2);
        y.answers(1, "lower");
        y.call("share", 2);
        y.answers(3, "lower");
    }

    private static void upperAndLowerStay() {
        Checks.says(41, "The upper number of what was told last;");
        Subject x = Subject.valley("f100g0153-");
        x.call("share", 2);
        x.call("best", 2, 0);
        x.refuses(Checks.BAD, "share", 4);
        x.refuses(Checks.BAD, "turns", 2, 1);
        x.refuses(Checks.BAD, "year", 0, 1);
        x.fraction(2, 3);
        x.call("turns", 1, 0);
        x.fraction(12, 1);
        x.call("share", 2);
        x.call("year", 1, 3);
        x.answers(1, "lower");
        x.call("share", 3);
        x.fraction(1, 4);
        x.settle("f999");
        x.refuses(Checks.STATE, "share", 1);
        x.fraction(1, 4);
    }

    private static void counts() {
        Checks.says(43, "0 GODS, 1 the DAY, 2 how many are GONE, 3 JEALOUS ones (FOREIGN, too), 4 SLEEPERS "
            + "(FORGOTTEN, too), "
            + "5 kept VALLEYS, 6 ROWS, 7 TEXTS that are there.");
        String[] kinds = {"g", "tA", "j", "s", "o", "v"};
        int[][] want = {{2, 0, 0, 0, 0, 0, 0, 1}, {2, 0, 0, 0, 0, 0, 0, 1}, {2, 0, 0, 1, 0, 0, 0, 1}, {2, 0, 0, 0, 1, 0, 0, 1},
            {2, 0, 0, 1, 0, 0, 0, 1}, {2, 0, 0, 0, 1, 0, 0, 1}};
        for (int k = 0; k < 6; k++) {
            Subject x = Subject.valley("f999g0153-" + kinds[k].charAt(0) + "0153" + (k == 1 ? "A" : "-"));
            for (int what = 0; what <= 7; what++) x.answers(want[k][what], "count", what);
            x.call("rest", 3);
            x.answers(3, "count", 1);
            x.answers(k == 4 ? 1 : 0, "count", 2);
        }
    }

    private static void countsOfTheMost() {
        Checks.says(43, "5 kept VALLEYS, 6 ROWS, 7 TEXTS that are there.");
        Subject x = Subject.valley("f999o0153-o0153-o0153-o0153-");
        x.restTill(200);
        for (int k = 0; k < 3; k++) x.call("keep", k);
        for (int r = 0; r < 6; r++) x.call("row", r, 0);
        for (int t = 0; t < 4; t++) x.call("text", t, 0);
        int[] want = {4, 200, 4, 4, 0, 3, 6, 4};
        for (int what = 0; what <= 7; what++) x.answers(want[what], "count", what);
        x.call("tear", 3);
        x.call("keep", 1);
        x.answers(5, "count", 6);
        x.answers(3, "count", 5);
        x.call("on", 0);
        x.answers(3, "count", 5);
        Subject sleepers = Subject.valley("f999s0153-v0153-s0153-v0153-");
        sleepers.answers(4, "count", 4);
        sleepers.answers(0, "count", 3);
    }

    private static void noCounts() {
        Checks.says(43, "BAD.");
        Subject x = new Subject();
        for (int what : new int[] {-1, 8, MOST, LEAST}) x.refuses(Checks.BAD, "count", what);
    }

    private static void findings() {
        Checks.says(44, "The latest FINDING (0 before any).");
        Subject x = Subject.valley("f000g0153-");
        x.answers(0, "finding");
        x.refuses(Checks.BAD, "row", 6, -1);
        x.refuses(Checks.STATE, "offer", 0);
        x.refuses(Checks.NONE, "may", 0);
        x.answers(0, "finding");
        x.finds(5, "row", 0, -1);
        x.finds(1, "at", 0, 0);
        x.call("row", 0, 0);
        x.finds(2, "at", 0, 0);
        x.finds(4, "mean", 0);
        x.finds(3, "mark", 0, 1);
        x.answers(3, "finding");
        x.settle("f999g0153-");
        x.answers(3, "finding");
    }

    private static void howOften() {
        Checks.says(45, "How often a FINDING (1 .. 5) was answered.");
        Subject x = Subject.valley("f000g0153-");
        for (int f = 1; f <= 5; f++) x.answers(0, "findings", f);
        x.call("row", 1, 0);
        for (int i = 0; i < 5; i++) x.call("tear", 0);
        for (int i = 0; i < 4; i++) x.call("at", 1, 0);
        for (int i = 0; i < 3; i++) x.call("mark", 0, 1);
        for (int i = 0; i < 2; i++) x.call("mean", 1);
        x.call("row", 1, -1);
        for (int f = 1; f <= 5; f++) x.answers(6 - f, "findings", f);
        for (int i = 0; i < 200; i++) x.call("tear", 0);
        x.answers(205, "findings", 1);
    }

    private static void howOftenIsRefused() {
        Checks.says(45, "BAD.");
        Subject x = new Subject();
        for (int f : new int[] {-1, 0, 6, MOST, LEAST}) x.refuses(Checks.BAD, "findings", f);
    }

    private static void digestOfNothing() {
        Checks.says(46, "h = 17; then h = 31 h + v for each v");
        long h = 17;
        for (int i = 0; i < 8 + 3 + 2; i++) h = 31 * h;
        for (int i = 0; i < 3 + 6 + 4; i++) h = 31 * h - 1;
        Subject x = new Subject();
        x.answers(h, "digest");
        x.call("row", 5, 0);
        x.call("tear", 5);
        x.answers(h, "digest");
    }

    private static void digestOfAll() {
        Checks.says(46, "count() 0 to 7; STORES; of each GOD god() 0 to 6, whether it was ever fed (1, 0); all GOOD "
            + "that was sent, all HARM; "
            + "of each DAY its OFFERING; of each kept VALLEY its DAY (-1: missing); of each ROW its size (-1: "
            + "missing) and places, "
            + "of each TEXT likewise.");
        Subject x = Subject.valley("f987o0153-v1142At2133Bs0524C");
        x.fill(1, LEAST, MOST);
        x.call("row", 3, 0);
        x.call("text", 0, 3);
        x.call("put", 0, 1, 200);
        x.call("offer", 3);
        x.call("keep", 1);
        x.call("rest", 5);
        x.call("keep", 2);
        x.call("offer", 9);
        x.call("offer", 7);
        int[][] rows = {null, {LEAST, MOST}, null, {}, null, null};
        int[][] texts = {{32, -56, 32}, null, null, {}};
        int[] kept = {-1, 1, 6};
        x.answers(x.reckoned(new int[] {0, 1, 1, 1}, kept, rows, texts), "digest");
        x.call("on", 1);
        x.answers(x.reckoned(new int[] {0, 1, 1, 0}, kept, rows, texts), "digest");
        x.call("undo", 0);
        x.answers(x.reckoned(new int[] {0, 0, 0, 0}, kept, rows, texts), "digest");
    }

    private static void digestTellsMissingFromEmpty() {
        Checks.says(46, "of each kept VALLEY its DAY (-1: missing); of each ROW its size (-1: missing) and places, "
            + "of each TEXT likewise.");
        Subject x = Subject.valley("f000g0153-");
        int[][] rows = new int[6][];
        int[][] texts = {null, null, null, {}};
        int[] kept = {-1, -1, -1};
        x.answers(x.reckoned(new int[] {0}, kept, rows, texts), "digest");
        for (int k = 0; k < 3; k++) {
            x.call("keep", k);
            kept[k] = 0;
        }
        x.answers(x.reckoned(new int[] {0}, kept, rows, texts), "digest");
        for (int r = 0; r < 6; r++) {
            x.call("row", r, r);
            rows[r] = new int[r];
        }
        for (int t = 0; t < 4; t++) x.call("text", t, 0);
        x.answers(x.reckoned(new int[] {0}, kept, rows, new int[][] {{}, {}, {}, {}}), "digest");
    }

    private static void askedStays() {
        Checks.says(46, "(of a call that tells by asked(): what it tells, not the 1 that it answers; asked() stays):");
        Subject x = Subject.valley("f123o0256-");
        x.tells(5, "offer", 12);
        x.call("tear", 0);
        long first = x.call("digest");
        x.answers(5, "asked");
        x.fraction(0, 1);
        x.answers(1, "finding");
        x.answers(first, "digest");
        long h = 17;
        long[] all = {1, 1, 0, 1, 0, 0, 0, 1, 1, 2, 3, 4, 0, 2, 5, 6, -9, 1, 0, 5, 0, 12, -1, -1, -1, -1, -1, -1, -1, -1, -1, -1, -1, -1, 0};
        for (long v : all) h = 31 * h + v;
        Checks.due("digest()", first, h);
    }
}
