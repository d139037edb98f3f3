/** Promises 36 to 39: a book of what was sent, and years. */
public final class BookTest {
    public static void main(String[] args) {
        fits();
        fitsOfForeign();
        booksAreRefused();
        whose();
        whoseOfGone();
        ask();
        year();
        yearsDraw();
        Checks.end();
    }

    private static void fits() {
        OfferTurn x = Checks.valley("f100g0253-");
        Checks.fill(x, 0, 12, 12, 12);
        Checks.fill(x, 1, 5, 5, -3);
        Checks.due(36, "just its own", x.fits(0, 0, 1), 1 << 2);
        Checks.fill(x, 1, 5, 5, 5);
        Checks.due(36, "3 and more", x.fits(0, 0, 1), 8 + 16 + 32 + 64);
        Checks.fill(x, 1, 5, -3, -3);
        Checks.due(36, "1", x.fits(0, 0, 1), 2);
        Checks.fill(x, 1, 5, -3, 5);
        Checks.due(36, "none", x.fits(0, 0, 1), 0);
        Checks.fill(x, 0, 0, 0);
        Checks.fill(x, 1, 5, 5);
        Checks.due(36, "one that can't be", x.fits(0, 0, 1), 0);
        x.row(0, 0);
        x.row(1, 0);
        Checks.due(36, "no DAYS", x.fits(0, 0, 1), 126);
        Checks.due(36, "a row with itself", x.fits(0, 0, 0), 126);
        Checks.fill(x, 0, 12);
        Checks.fill(x, 1, 5);
        x.rest(3);
        Checks.due(36, "from as it is", x.fits(0, 0, 1), 16 + 32 + 64);
        Checks.due(36, "PATIENCE stays", Checks.ask(x, 0, 2), 2);
    }

    private static void fitsOfForeign() {
        OfferTurn x = Checks.valley("f900o0153-");
        Checks.fill(x, 0, 12, 12, 12, 0);
        Checks.fill(x, 1, 5, 5, -3, 5);
        Checks.due(36, "2", x.fits(0, 0, 1), 4);
        Checks.fill(x, 1, 5, -3, -3, 5);
        Checks.due(36, "with 1 it is GONE", x.fits(0, 0, 1), 0);
    }

    private static void booksAreRefused() {
        OfferTurn x = new OfferTurn();
        Checks.due(36, "no GODS", x.fits(0, 0, 1), Checks.BAD);
        Checks.due(37, "no GODS", x.whose(0, 1), Checks.STATE);
        Checks.due(37, "BAD ahead of STATE", x.whose(6, 1), Checks.BAD);
        Checks.settle(x, "f100g0253-");
        int[][] bad = {{1, 0, 1}, {-1, 0, 1}, {0, 6, 1}, {0, -1, 1}, {0, 0, 6}, {0, 0, -1}};
        for (int[] a : bad) Checks.due(36, "BAD", x.fits(a[0], a[1], a[2]), Checks.BAD);
        for (int i = 2; i < bad.length; i++) Checks.due(37, "BAD", x.whose(bad[i][1], bad[i][2]), Checks.BAD);
        x.row(0, 31);
        Checks.finds(36, x, "NOTHING ahead of SIZE", x.fits(0, 0, 1), Checks.NOTHING);
        Checks.finds(37, x, "NOTHING ahead of SIZE", x.whose(0, 1), Checks.NOTHING);
        Checks.finds(36, x, "NOTHING, the book", x.fits(0, 1, 0), Checks.NOTHING);
        Checks.finds(37, x, "NOTHING, the book", x.whose(1, 0), Checks.NOTHING);
        x.row(1, 31);
        x.lay(0, 0, 99);
        Checks.finds(36, x, "more than 30", x.fits(0, 0, 1), Checks.SIZE);
        Checks.finds(37, x, "more than 30", x.whose(0, 1), Checks.SIZE);
        Checks.fill(x, 0, 99);
        Checks.finds(36, x, "not as many", x.fits(0, 0, 1), Checks.SIZE);
        Checks.finds(37, x, "not as many", x.whose(0, 1), Checks.SIZE);
        Checks.fill(x, 1, 99);
        Checks.finds(36, x, "none such", x.fits(0, 0, 1), Checks.UNLIKE);
        Checks.finds(37, x, "none such", x.whose(0, 1), Checks.UNLIKE);
        Checks.fill(x, 0, 1, 3);
        Checks.fill(x, 1, 0, 0);
        Checks.finds(36, x, "none such, behind one that can't be", x.fits(0, 0, 1), Checks.UNLIKE);
        Checks.finds(37, x, "none such, behind one that can't be", x.whose(0, 1), Checks.UNLIKE);
        x.row(0, 30);
        x.row(1, 30);
        Checks.due(36, "30 of both", x.fits(0, 0, 1), 0);
        Checks.due(37, "30 of both", x.whose(0, 1), 0);
    }

    private static void whose() {
        OfferTurn x = Checks.valley("f100g0253-");
        Checks.fill(x, 0, 12, 12, 12);
        Checks.fill(x, 1, 5, 5, -3);
        Checks.due(37, "only by its own", x.whose(0, 1), 0);
        Checks.due(37, "only by its own, asked()", x.asked(), 0);
        Checks.fill(x, 1, 5, 5, 5);
        Checks.due(37, "by four others", x.whose(0, 1), 1);
        Checks.due(37, "by four others, asked()", x.asked(), 4);
        OfferTurn two = Checks.valley("f100g0153-g0253-");
        Checks.fill(two, 0, 12, 12);
        Checks.fill(two, 1, 10, 10);
        Checks.due(37, "the first one's", two.whose(0, 1), 1);
        Checks.due(37, "5 PATIENCES", two.asked(), 5);
        Checks.fill(two, 1, 10, -6);
        Checks.due(37, "the second one's", two.whose(0, 1), 2);
        Checks.due(37, "1 PATIENCE", two.asked(), 1);
        Checks.fill(two, 1, 10, 2);
        Checks.due(37, "the second one's, or as it is", two.whose(0, 1), 2);
        Checks.due(37, "4 PATIENCES", two.asked(), 4);
    }

    private static void whoseOfGone() {
        OfferTurn x = Checks.valley("f000o0153-g1630-");
        x.rest(3);
        Checks.fill(x, 0, 12);
        Checks.fill(x, 1, 3);
        Checks.due(36, "one GONE fits by all", x.fits(0, 0, 1), 126);
        Checks.due(37, "one GONE, too", x.whose(0, 1), 3);
        Checks.due(37, "5 and 2", x.asked(), 7);
    }

    private static void ask() {
        OfferTurn x = new OfferTurn();
        Checks.due(38, "no GODS", x.ask(0), Checks.BAD);
        Checks.settle(x, "f110g0253-");
        Checks.due(38, "ask(1)", x.ask(1), Checks.BAD);
        Checks.due(38, "ask(-1)", x.ask(-1), Checks.BAD);
        Checks.due(38, "nothing tells", x.ask(0), 0);
        Checks.due(38, "nothing tells, asked()", x.asked(), 6);
        x.store(0, 0);
        Checks.due(38, "one that can be", x.ask(0), 1);
        x.rest(2);
        Checks.due(38, "HUNGER 3", x.ask(0), 12);
        Checks.due(38, "HUNGER 3, asked()", x.asked(), 4);
        x.rest(1);
        Checks.due(38, "HUNGER 4", x.ask(0), 12);
        Checks.due(38, "HUNGER 4, asked()", x.asked(), 3);
        x.rest(2);
        Checks.due(38, "HUNGER 5 less 2 tells more than 5 and 1", x.ask(0), 1);
        Checks.due(38, "HUNGER 5 less 2, asked()", x.asked(), 4);
        OfferTurn dumb = Checks.valley("f111g0200-");
        dumb.rest(3);
        Checks.due(38, "one that sends nothing", dumb.ask(0), 0);
        Checks.due(38, "one that sends nothing, asked()", dumb.asked(), 6);
        OfferTurn gone = Checks.valley("f999o0153-g0153-");
        gone.rest(3);
        Checks.due(38, "GONE", gone.ask(0), Checks.STATE);
        OfferTurn night = Checks.valley("f900s0153-");
        night.rest(3);
        Checks.due(38, "asleep", night.ask(0), 12);
        Checks.due(38, "asleep, asked()", night.asked(), 6);
    }

    private static void year() {
        OfferTurn x = new OfferTurn();
        Checks.due(39, "no GODS", x.year(1, 1), Checks.STATE);
        int[][] bad = {{0, 1}, {-1, 1}, {2147483647, 1}, {1, 0}, {1, 101}, {1, -1}};
        for (int[] a : bad) Checks.due(39, "year(" + a[0] + ", " + a[1] + ")", x.year(a[0], a[1]), Checks.BAD);
        Checks.settle(x, "f000g0153-");
        Checks.told(39, x, "year(2147483646, 100)", x.year(2147483646, 100), 5 - 99 * 3);
        Checks.due(39, "upper()", x.upper(), 99);
        Checks.due(39, "lower()", x.lower(), 1);
        Checks.due(39, "it stays", x.count(1), 0);
        OfferTurn harmless = Checks.valley("f000g0150-");
        Checks.told(39, harmless, "year(7, 30)", harmless.year(7, 30), 5);
        Checks.due(39, "HARM 0 is none", harmless.upper(), 0);
    }

    /** From 1 come 48271, which is 2 modulo 13, and 182605794, which is 7. */
    private static void yearsDraw() {
        OfferTurn x = Checks.valley("f001g2153-");
        x.rest(3);
        Checks.told(39, x, "the first number comes from the seed", x.year(1, 1), 5);
        Checks.due(39, "upper()", x.upper(), 0);
        x.store(2, 0);
        Checks.told(39, x, "it can't be", x.year(1, 1), -3);
        Checks.due(39, "upper()", x.upper(), 1);
        OfferTurn y = Checks.valley("f010g0109-g0109-g1153-");
        y.rest(3);
        Checks.told(39, y, "then 7", y.year(1, 2), -18 - 3 - 18 + 5);
        Checks.due(39, "upper()", y.upper(), 2);
    }
}
