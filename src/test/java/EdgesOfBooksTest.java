import java.math.BigInteger;

/** The bounds that the document names for books and years, sentence by sentence: promises 36 to 39. */
public final class EdgesOfBooksTest {
    private static final int MOST = Integer.MAX_VALUE;
    private static final int LEAST = Integer.MIN_VALUE;
    private static final int[] NO_ROWS = {-1, 6, MOST, LEAST};
    private static final String ONE = "f100g0253-";

    public static void main(String[] args) {
        patiencesThatFit();
        booksOfNoneAndOfThirty();
        fitsIsRefused();
        inTheOrderOfFits();
        whoseItCanBe();
        ofOneOrOfNone();
        whoseIsRefused();
        inTheOrderOfWhose();
        whichTellsMost();
        theFirstThatCanBe();
        askIsRefused();
        yearsAreDrawn();
        harmInAYear();
        yearsStay();
        yearIsRefused();
        Checks.end();
    }

    private static void book(Subject x, int[] numbers, int... worths) {
        x.fill(0, numbers);
        x.fill(1, worths);
    }

    private static void patiencesThatFit() {
        Checks.says(36, "PATIENCES (bits 1 .. 6) of a GOD that fit a book: a PLAN (a ROW) from as it is, "
            + "and WORTHS of its DAYS (a ROW of as many): by which each DAY can be and has that WORTH.");
        Subject x = Subject.valley(ONE);
        book(x, new int[] {12}, 5);
        x.answers(2 + 4 + 8 + 16 + 32 + 64, "fits", 0, 0, 1);
        book(x, new int[] {12}, -3);
        x.answers(0, "fits", 0, 0, 1);
        book(x, new int[] {12, 12}, 5, -3);
        x.answers(2, "fits", 0, 0, 1);
        book(x, new int[] {12, 12, 12}, 5, 5, -3);
        x.answers(4, "fits", 0, 0, 1);
        book(x, new int[] {12, 12, 12}, 5, 5, -4);
        x.answers(0, "fits", 0, 0, 1);
        book(x, new int[] {0, 0}, 5, 5);
        x.answers(0, "fits", 0, 0, 1);
        book(x, new int[] {12, 1}, 5, 5);
        x.answers(0, "fits", 0, 0, 1);
        x.call("rest", 5);
        book(x, new int[] {12}, 5);
        x.answers(64, "fits", 0, 0, 1);
        book(x, new int[] {12}, -3);
        x.answers(2 + 4 + 8 + 16 + 32, "fits", 0, 0, 1);
        x.answers(5, "count", 1);
        x.tells(2, "god", 0, 2);
        Subject going = Subject.valley("f900o0353-");
        book(going, new int[] {12, 12, 12, 0}, 5, -3, -3, 5);
        going.answers(0, "fits", 0, 0, 1);
        book(going, new int[] {12, 12, 12, 12}, 5, -3, -3, 0);
        going.answers(2, "fits", 0, 0, 1);
        book(going, new int[] {12, 12, 12, 0}, 5, 5, -3, 5);
        going.answers(4, "fits", 0, 0, 1);
    }

    private static void booksOfNoneAndOfThirty() {
        Checks.says(36, "BAD; NOTHING: either; SIZE: more than 30, not as many in both; UNLIKE: a number that is none.");
        Subject x = Subject.valley("f000g0250-");
        x.call("row", 0, 0);
        x.call("row", 1, 0);
        x.answers(126, "fits", 0, 0, 1);
        x.answers(126, "fits", 0, 1, 1);
        x.fillAlike(0, 30, 12);
        x.fillAlike(1, 30, 0);
        x.call("lay", 1, 0, 5);
        x.answers(2, "fits", 0, 0, 1);
        x.restTill(200);
        x.call("lay", 1, 0, 0);
        x.answers(126, "fits", 0, 0, 1);
        x.fillAlike(0, 31, 12);
        x.fillAlike(1, 31, 0);
        x.finds(Checks.SIZE, "fits", 0, 0, 1);
    }

    private static void fitsIsRefused() {
        Checks.says(36, "BAD; NOTHING: either; SIZE: more than 30, not as many in both; UNLIKE: a number that is none.");
        Subject x = new Subject();
        x.refuses(Checks.BAD, "fits", 0, 0, 1);
        x.settle(ONE);
        for (int g : new int[] {-1, 1, MOST, LEAST}) x.refuses(Checks.BAD, "fits", g, 0, 1);
        for (int r : NO_ROWS) x.refuses(Checks.BAD, "fits", 0, r, 1);
        for (int r : NO_ROWS) x.refuses(Checks.BAD, "fits", 0, 0, r);
        x.finds(Checks.NOTHING, "fits", 0, 0, 1);
        x.fill(0, 12, 12);
        x.finds(Checks.NOTHING, "fits", 0, 0, 1);
        x.finds(Checks.NOTHING, "fits", 0, 1, 0);
        x.fill(1, 5);
        x.finds(Checks.SIZE, "fits", 0, 0, 1);
        x.finds(Checks.SIZE, "fits", 0, 1, 0);
        x.fill(1, 5, 5);
        for (int number : new int[] {-1, 3, 11, 13, MOST, LEAST}) {
            x.call("lay", 0, 1, number);
            x.finds(Checks.UNLIKE, "fits", 0, 0, 1);
        }
        x.call("lay", 0, 1, 2);
        x.answers(0, "fits", 0, 0, 1);
    }

    private static void inTheOrderOfFits() {
        Checks.says(36, "(In this order.)");
        Subject x = Subject.valley(ONE);
        x.fillAlike(0, 31, 99);
        x.refuses(Checks.BAD, "fits", 1, 0, 2);
        x.refuses(Checks.BAD, "fits", 0, 0, 6);
        x.finds(Checks.NOTHING, "fits", 0, 0, 2);
        x.finds(Checks.NOTHING, "fits", 0, 2, 0);
        x.fillAlike(1, 31, 99);
        x.finds(Checks.SIZE, "fits", 0, 0, 1);
        x.fillAlike(1, 30, 99);
        x.finds(Checks.SIZE, "fits", 0, 0, 1);
        x.fillAlike(0, 30, 99);
        x.finds(Checks.UNLIKE, "fits", 0, 0, 1);
    }

    private static void whoseItCanBe() {
        Checks.says(37, "GODS (bits) of which some one other PATIENCE than its own makes the book fit;");
        Subject x = Subject.valley("f100g0153-g0253-");
        book(x, new int[] {12, 12}, 10, 2);
        x.answersAndTells(2, 4, "whose", 0, 1);
        book(x, new int[] {12, 12}, 10, 10);
        x.answersAndTells(1, 5, "whose", 0, 1);
        book(x, new int[] {12, 12}, 10, -6);
        x.answersAndTells(2, 1, "whose", 0, 1);
        book(x, new int[] {12, 12}, 10, 9);
        x.answersAndTells(0, 0, "whose", 0, 1);
        book(x, new int[] {12}, 10);
        x.answersAndTells(3, 10, "whose", 0, 1);
        Subject four = Subject.valley("f100g0153-g0153-g0153-g0153-");
        book(four, new int[] {12, 12}, 20, -12 + 8);
        four.answersAndTells(15, 20, "whose", 0, 1);
    }

    private static void ofOneOrOfNone() {
        Checks.says(37, "how many such PATIENCES there are in all by asked().");
        Subject x = Subject.valley(ONE);
        book(x, new int[] {12, 12, 12}, 5, 5, -3);
        x.answersAndTells(0, 0, "whose", 0, 1);
        book(x, new int[] {12, 12, 12}, 5, -3, -3);
        x.answersAndTells(1, 1, "whose", 0, 1);
        book(x, new int[] {12, 12, 12}, 5, 5, 5);
        x.answersAndTells(1, 4, "whose", 0, 1);
        x.call("row", 0, 0);
        x.answersAndTells(1, 5, "whose", 0, 0);
        x.fillAlike(0, 30, 12);
        x.fillAlike(1, 30, -3);
        x.answersAndTells(0, 0, "whose", 0, 1);
        Subject gone = Subject.valley("f000o0153-g1630-");
        gone.call("rest", 3);
        book(gone, new int[] {12}, 3);
        gone.answersAndTells(3, 5 + 2, "whose", 0, 1);
    }

    private static void whoseIsRefused() {
        Checks.says(37, "BAD; STATE; NOTHING; SIZE; UNLIKE.");
        Subject x = new Subject();
        for (int r : NO_ROWS) x.refuses(Checks.BAD, "whose", r, 1);
        for (int r : NO_ROWS) x.refuses(Checks.BAD, "whose", 0, r);
        x.refuses(Checks.STATE, "whose", 0, 1);
        x.settle(ONE);
        for (int r : NO_ROWS) x.refuses(Checks.BAD, "whose", r, 1);
        x.fill(0, 12, 12);
        x.finds(Checks.NOTHING, "whose", 0, 1);
        x.finds(Checks.NOTHING, "whose", 1, 0);
        x.fill(1, 5);
        x.finds(Checks.SIZE, "whose", 0, 1);
        x.finds(Checks.SIZE, "whose", 1, 0);
        x.fill(1, 5, 5);
        for (int number : new int[] {-1, 3, 11, 13, MOST, LEAST}) {
            x.call("lay", 0, 1, number);
            x.finds(Checks.UNLIKE, "whose", 0, 1);
        }
    }

    private static void inTheOrderOfWhose() {
        Checks.says(37, "(In this order.)");
        Subject x = new Subject();
        x.fillAlike(0, 31, 99);
        x.refuses(Checks.BAD, "whose", 0, 6);
        x.refuses(Checks.STATE, "whose", 0, 2);
        x.settle(ONE);
        x.finds(Checks.NOTHING, "whose", 0, 2);
        x.finds(Checks.NOTHING, "whose", 2, 0);
        x.fillAlike(1, 31, 99);
        x.finds(Checks.SIZE, "whose", 0, 1);
        x.fillAlike(0, 30, 99);
        x.finds(Checks.SIZE, "whose", 0, 1);
        x.fillAlike(1, 30, 99);
        x.finds(Checks.UNLIKE, "whose", 0, 1);
    }

    private static void whichTellsMost() {
        Checks.says(38, "Which OFFERING (number; that can be) on the next DAY tells most of a GOD's PATIENCE: by "
            + "whose WORTH, "
            + "whichever it is, fewest of PATIENCES 1 .. 6 are left at most (the first); how many at most by asked().");
        int[] tellings = {0, 12, 12, 12, 12, 1, 1, 1, 1, 0};
        int[] left = {6, 5, 4, 3, 4, 4, 3, 4, 5, 6};
        for (int hunger = 0; hunger <= 9; hunger++) {
            Subject x = Subject.valley("f110g0653-");
            x.call("rest", hunger);
            x.answersAndTells(tellings[hunger], left[hunger], "ask", 0);
        }
        Subject silent = Subject.valley("f111g0600-");
        silent.call("rest", 3);
        silent.answersAndTells(0, 6, "ask", 0);
        Subject forgotten = Subject.valley("f999v0653-");
        forgotten.call("rest", 8);
        forgotten.answersAndTells(1, 5, "ask", 0);
        Subject foe = Subject.valley("f999g0153-j1653A");
        foe.answersAndTells(0, 4, "ask", 1);
    }

    private static void theFirstThatCanBe() {
        Checks.says(38, "(the first)");
        Subject x = Subject.valley("f001s0153-");
        x.answersAndTells(2, 6, "ask", 0);
        x.call("store", 2, 0);
        x.answersAndTells(12, 6, "ask", 0);
        x.call("rest", 3);
        x.answersAndTells(12, 6, "ask", 0);
        x.restTill(200);
        x.call("store", 1, 1);
        x.answersAndTells(1, 6, "ask", 0);
        Subject gone = Subject.valley("f900o0153-g0153-");
        gone.call("rest", 3);
        gone.answersAndTells(12, 3, "ask", 1);
    }

    private static void askIsRefused() {
        Checks.says(38, "BAD; STATE: it is GONE.");
        Subject x = new Subject();
        x.refuses(Checks.BAD, "ask", 0);
        x.settle("f999o0153-g0153-");
        for (int g : new int[] {-1, 2, MOST, LEAST}) x.refuses(Checks.BAD, "ask", g);
        x.call("rest", 2);
        x.answers(3, "ask", 0);
        x.call("rest", 1);
        x.refuses(Checks.STATE, "ask", 0);
        x.answers(12, "ask", 1);
    }

    /** The same DAYS, offered one by one by the numbers that the document draws. */
    private static void year(String signs, int seed, int n) {
        Subject x = Subject.valley(signs);
        x.call("year", seed, n);
        long worth = x.call("asked");
        long harmed = x.call("upper");
        x.answers(1, "lower");
        long harmedDays = 0;
        long harmBefore = 0;
        BigInteger drawn = BigInteger.valueOf(seed);
        for (int day = 0; day < n; day++) {
            drawn = drawn.multiply(BigInteger.valueOf(48271)).mod(BigInteger.valueOf(2147483647));
            if (x.call("offer", drawn.mod(BigInteger.valueOf(13)).intValue()) != 1) x.call("offer", 12);
            x.call("sums");
            long harm = x.call("asked");
            if (harm > harmBefore) harmedDays++;
            harmBefore = harm;
        }
        String line = "year(" + seed + ", " + n + ") of " + signs;
        Checks.due(line, worth, x.call("sums") - x.call("asked"));
        Checks.due(line + ", DAYS with HARM", harmed, harmedDays);
    }

    private static void yearsAreDrawn() {
        Checks.says(39, "Years drawn: n (1 .. 100) DAYS by a seed (1 .. 2147483646), from as it is: a number comes "
            + "from the one ahead "
            + "by 48271 times it modulo 2147483647; DAY by DAY one: it modulo 13 is the OFFERING, if that can be, "
            + "else none:");
        for (int seed : new int[] {1, 2, 48271, 77777, 2147483645, 2147483646}) {
            year("f999g0653-t1442Aj2533Bs0524C", seed, 100);
            year("f999o0297-v1386A", seed, 60);
            year("f111g0153-", seed, 1);
        }
        Subject drawn = Subject.valley("f001g2153-");
        drawn.call("rest", 3);
        drawn.tells(5, "year", 1, 1);
        drawn.call("store", 2, 0);
        drawn.tells(-3, "year", 1, 1);
    }

    private static void harmInAYear() {
        Checks.says(39, "WORTH of all by asked(): 1; in how many of them HARM above 0 was sent by upper() (lower() is 1).");
        Subject x = Subject.valley("f000g0153-");
        x.tells(5, "year", 2147483646, 1);
        x.fraction(0, 1);
        x.tells(5 - 99 * 3, "year", 1, 100);
        x.fraction(99, 1);
        Subject harmless = Subject.valley("f000g0150-");
        harmless.tells(5, "year", 7, 100);
        harmless.fraction(0, 1);
        Subject both = Subject.valley("f000g0191-g0391-");
        both.tells(18 + 8 + 8, "year", 7, 3);
        both.fraction(2, 1);
        both.tells(18 + 8 + 8 - 97 * 2, "year", 7, 100);
        both.fraction(99, 1);
    }

    private static void yearsStay() {
        Checks.says(39, "(It stays.)");
        Subject x = Subject.valley("f555o0153-v1142At2133Bs0524C");
        x.call("offer", 3);
        x.call("rest", 1);
        long before = x.call("digest");
        x.call("year", 5, 100);
        Checks.due("digest() behind year()", x.call("digest"), before);
        Subject late = Subject.valley("f000g0153-");
        late.restTill(200);
        late.tells(-300, "year", 5, 100);
        late.answers(200, "count", 1);
        late.answersAndTells(5, 199 * 3, "sums");
    }

    private static void yearIsRefused() {
        Checks.says(39, "BAD; STATE.");
        Subject x = new Subject();
        for (int again = 0; again < 2; again++) {
            for (int seed : new int[] {-1, 0, 2147483647, LEAST}) x.refuses(Checks.BAD, "year", seed, 1);
            for (int n : new int[] {-1, 0, 101, MOST, LEAST}) x.refuses(Checks.BAD, "year", 1, n);
            if (again == 0) x.refuses(Checks.STATE, "year", 1, 1);
            if (again == 0) x.refuses(Checks.STATE, "year", 2147483646, 100);
            x.settle(ONE);
        }
    }
}
