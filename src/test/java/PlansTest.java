/** Promises 26 to 35: plans. */
public final class PlansTest {
    private static final String ONE = "f100g0153-";

    public static void main(String[] args) {
        refusals();
        best();
        bestOfAlikeOnes();
        plansOfAsleepAndGone();
        tries();
        safe();
        share();
        food();
        harm();
        starve();
        starveOfTwins();
        price();
        altar();
        turns();
        turnsOfSets();
        everythingStays();
        lateDays();
        Checks.end();
    }

    private static void refusals() {
        OfferTurn x = new OfferTurn();
        for (int i = 0; i < 2; i++) {
            int[] lengths = {0, 4, -1, Integer.MAX_VALUE, Integer.MIN_VALUE};
            for (int n : lengths) {
                Checks.due(26, "best(" + n + ", 0)", x.best(n, 0), Checks.BAD);
                Checks.due(28, "safe(" + n + ", 0)", x.safe(n == 4 ? 5 : n, 0), Checks.BAD);
                Checks.due(29, "share(" + n + ")", x.share(n), Checks.BAD);
                Checks.due(30, "food(" + n + ")", x.food(n), Checks.BAD);
                Checks.due(31, "harm(" + n + ")", x.harm(n), Checks.BAD);
                Checks.due(32, "starve(" + n + ")", x.starve(n), Checks.BAD);
                Checks.due(33, "price(0, " + n + ")", x.price(0, n), Checks.BAD);
                Checks.due(34, "altar(0, 0, 1, " + n + ")", x.altar(0, 0, 1, n), Checks.BAD);
                if (n != 0) Checks.due(35, "turns(0, " + n + ")", x.turns(0, n), Checks.BAD);
            }
            int[] missing = {6, -1, Integer.MAX_VALUE, Integer.MIN_VALUE};
            for (int r : missing) {
                Checks.due(26, "best(1, " + r + ")", x.best(1, r), Checks.BAD);
                Checks.due(27, "tries(" + r + ")", x.tries(r), Checks.BAD);
                Checks.due(28, "safe(1, " + r + ")", x.safe(1, r), Checks.BAD);
            }
            if (i == 0) noGods(x);
            Checks.settle(x, ONE);
        }
        Checks.due(34, "altar(0, 3, 1, 1)", x.altar(0, 3, 1, 1), Checks.BAD);
        Checks.due(34, "altar(0, -1, 1, 1)", x.altar(0, -1, 1, 1), Checks.BAD);
        Checks.due(34, "altar(0, 0, 0, 1)", x.altar(0, 0, 0, 1), Checks.BAD);
        Checks.due(34, "altar(0, 0, 7, 1)", x.altar(0, 0, 7, 1), Checks.BAD);
        Checks.due(34, "altar(1, 0, 1, 1)", x.altar(1, 0, 1, 1), Checks.BAD);
        Checks.due(34, "altar(-1, 0, 1, 1)", x.altar(-1, 0, 1, 1), Checks.BAD);
        Checks.due(33, "price(1, 1)", x.price(1, 1), Checks.BAD);
        Checks.due(33, "price(-1, 1)", x.price(-1, 1), Checks.BAD);
        Checks.due(35, "turns(2, 1)", x.turns(2, 1), Checks.BAD);
        Checks.due(35, "turns(-1, 1)", x.turns(-1, 1), Checks.BAD);
        Checks.due(35, "turns(1, -1)", x.turns(1, -1), Checks.BAD);
    }

    private static void noGods(OfferTurn x) {
        Checks.due(26, "best, no GODS", x.best(1, 0), Checks.STATE);
        Checks.due(27, "tries, no GODS", x.tries(0), Checks.STATE);
        Checks.due(28, "safe, no GODS", x.safe(4, 0), Checks.STATE);
        Checks.due(29, "share, no GODS", x.share(1), Checks.STATE);
        Checks.due(30, "food, no GODS", x.food(1), Checks.STATE);
        Checks.due(31, "harm, no GODS", x.harm(1), Checks.STATE);
        Checks.due(32, "starve, no GODS", x.starve(1), Checks.STATE);
        Checks.due(33, "price, no GODS", x.price(0, 1), Checks.BAD);
        Checks.due(34, "altar, no GODS", x.altar(0, 0, 1, 1), Checks.BAD);
        Checks.due(35, "turns, no GODS", x.turns(0, 0), Checks.STATE);
        Checks.due(35, "turns of a set that there is not", x.turns(1, 0), Checks.BAD);
    }

    private static void best() {
        OfferTurn x = Checks.valley(ONE);
        x.row(2, 9);
        Checks.told(26, x, "best(1, 2)", x.best(1, 2), 5);
        Checks.plan(26, x, 2, 0);
        Checks.told(26, x, "best(2, 2)", x.best(2, 2), 10);
        Checks.plan(26, x, 2, 0, 12);
        Checks.told(26, x, "best(3, 5)", x.best(3, 5), 15);
        Checks.plan(26, x, 5, 12, 0, 12);
        x.rest(4);
        Checks.told(26, x, "below 0", x.best(2, 2), 5 + 5);
        x.store(0, 0);
        Checks.told(26, x, "below 0", x.best(3, 2), -9);
        Checks.plan(26, x, 2, 12, 12, 12);
    }

    private static void bestOfAlikeOnes() {
        OfferTurn x = Checks.valley("f011g0153-g1142-");
        Checks.told(26, x, "best(2, 0)", x.best(2, 0), 18);
        Checks.plan(26, x, 0, 1, 5);
        x = Checks.valley("f100g0153-g1142-");
        Checks.told(26, x, "best(2, 0)", x.best(2, 0), 12);
        Checks.plan(26, x, 0, 0, 12);
        x = Checks.valley("f222g0553-g1542-");
        Checks.told(26, x, "all alike", x.best(3, 0), 27);
        Checks.plan(26, x, 0, 0, 0, 1);
    }

    private static void plansOfAsleepAndGone() {
        OfferTurn x = Checks.valley("f900s0153-");
        x.rest(1);
        Checks.told(26, x, "asleep on DAY 1", x.best(1, 0), 0);
        Checks.plan(26, x, 0, 12);
        Checks.told(26, x, "awake on DAY 2", x.best(2, 0), 5);
        Checks.plan(26, x, 0, 12, 0);
        OfferTurn gone = Checks.valley("f900o0153-");
        gone.rest(2);
        Checks.told(26, gone, "saved", gone.best(2, 0), 10);
        Checks.plan(26, gone, 0, 0, 0);
        gone.rest(1);
        Checks.told(26, gone, "GONE", gone.best(2, 0), 0);
        Checks.plan(26, gone, 0, 12, 12);
    }

    private static void tries() {
        OfferTurn x = Checks.valley(ONE);
        Checks.finds(27, x, "a missing row", x.tries(0), Checks.NOTHING);
        x.row(0, 0);
        Checks.due(27, "an empty row", x.tries(0), 0);
        Checks.due(27, "an empty row, asked()", x.asked(), 0);
        Checks.fill(x, 0, 12, 12, 0, 12);
        Checks.due(27, "all four", x.tries(0), 4);
        Checks.due(27, "all four, asked()", x.asked(), 5 - 3 + 5 + 5);
        Checks.fill(x, 0, 12, 0, 0, 12);
        Checks.due(27, "until one can't be", x.tries(0), 2);
        Checks.due(27, "until one can't be, asked()", x.asked(), 10);
        Checks.fill(x, 0, 1, 12);
        Checks.due(27, "the first can't be", x.tries(0), 0);
        Checks.due(27, "the first can't be, asked()", x.asked(), 0);
        Checks.fill(x, 0, 1, 3);
        Checks.finds(27, x, "none such, behind one that can't be", x.tries(0), Checks.UNLIKE);
        Checks.fill(x, 0, -1);
        Checks.finds(27, x, "-1", x.tries(0), Checks.UNLIKE);
        Checks.fill(x, 0, 13);
        Checks.finds(27, x, "13", x.tries(0), Checks.UNLIKE);
        x.row(0, 31);
        x.lay(0, 0, 99);
        Checks.finds(27, x, "SIZE ahead of UNLIKE", x.tries(0), Checks.SIZE);
        x.row(1, 30);
        for (int i = 0; i < 30; i++) x.lay(1, i, 12);
        Checks.due(27, "30 numbers", x.tries(1), 30);
        Checks.due(27, "30 numbers, asked()", x.asked(), 5 - 29 * 3);
    }

    private static void safe() {
        OfferTurn x = Checks.valley(ONE);
        Checks.told(26, x, "asked() ahead", x.best(3, 0), 15);
        Checks.due(28, "safe(1, 0)", x.safe(1, 0), 1);
        Checks.due(28, "asked() stays", x.asked(), 15);
        Checks.plan(28, x, 0, 0);
        Checks.due(28, "safe(2, 0)", x.safe(2, 0), 1);
        Checks.plan(28, x, 0, 0, 12);
        Checks.due(28, "safe(3, 0)", x.safe(3, 0), 1);
        Checks.plan(28, x, 0, 12, 0, 12);
        Checks.due(28, "safe(4, 0)", x.safe(4, 0), Checks.NONE);
        Checks.plan(28, x, 0, 12, 0, 12);
        Checks.due(28, "safe(4, 3)", x.safe(4, 3), Checks.NONE);
        Checks.finds(28, x, "the row is missing still", x.at(3, 0), Checks.NOTHING);
        Checks.told(26, x, "best() behind safe() counts HARM, too", x.best(1, 0), 5);
        x.store(0, 0);
        Checks.due(28, "safe(2, 0), none", x.safe(2, 0), Checks.NONE);
        Checks.told(26, x, "best() behind safe() counts HARM, too", x.best(2, 0), 2);
        x.store(0, 1);
        OfferTurn foes = Checks.valley("f900g0150-g0130A");
        Checks.due(28, "safe(1, 4)", foes.safe(1, 4), 1);
        Checks.plan(28, foes, 4, 0);
        Checks.told(26, foes, "best(1, 4)", foes.best(1, 4), 8);
        Checks.plan(26, foes, 4, 3);
        x.store(1, 1);
        Checks.due(28, "safe(4, 0) with more", x.safe(4, 0), 1);
        Checks.plan(28, x, 0, 0, 12, 1, 12);
    }

    private static void share() {
        OfferTurn x = Checks.valley(ONE);
        Checks.due(29, "share(1)", x.share(1), 2);
        fraction(x, 1, 1);
        Checks.due(29, "share(2)", x.share(2), 2);
        fraction(x, 2, 3);
        Checks.due(29, "share(3)", x.share(3), 1);
        fraction(x, 1, 4);
        x.store(0, 0);
        Checks.due(29, "share(2), none", x.share(2), 0);
        fraction(x, 0, 1);
        OfferTurn harmless = Checks.valley("f099g0150-");
        Checks.due(29, "HARM 0 is none", harmless.share(3), 27);
        fraction(harmless, 1, 1);
    }

    private static void fraction(OfferTurn x, long upper, long lower) {
        Checks.due(41, "upper()", x.upper(), upper);
        Checks.due(42, "lower()", x.lower(), lower);
    }

    private static void food() {
        OfferTurn x = Checks.valley(ONE);
        Checks.due(30, "food(1)", x.food(1), 0);
        Checks.due(30, "food(2)", x.food(2), 1);
        Checks.due(30, "food(3)", x.food(3), 1);
        x.rest(1);
        Checks.due(30, "food(3), there is none", x.food(3), Checks.NONE);
        x.store(1, 1);
        Checks.due(30, "food(3) of two FOODS", x.food(3), 2);
        OfferTurn twins = Checks.valley("f900g0155-t0155A");
        twins.rest(1);
        Checks.due(30, "TWINS eat two", twins.food(1), 2);
        Checks.due(30, "asked() stays", twins.asked(), 10);
    }

    private static void harm() {
        OfferTurn x = Checks.valley(ONE);
        Checks.due(31, "harm(3)", x.harm(3), 0);
        Checks.due(31, "harm(3), asked()", x.asked(), 15);
        x.store(0, 0);
        Checks.due(31, "harm(3), no FOOD", x.harm(3), 6);
        Checks.due(31, "harm(3), no FOOD, asked()", x.asked(), 5);
        OfferTurn two = Checks.valley("f100g0191-g0192-");
        two.rest(1);
        Checks.due(31, "less HARM, though as much GOOD", two.harm(1), 1);
        Checks.due(31, "of those", two.asked(), 9);
        OfferTurn first = Checks.valley("f100g0192-g0135-");
        first.rest(1);
        Checks.due(31, "not the most GOOD of all", first.harm(1) * 100 + first.asked(), 203);
        OfferTurn most = Checks.valley("f100g0152-g0132-");
        most.rest(1);
        Checks.due(31, "as much HARM", most.harm(1), 2);
        Checks.due(31, "the most GOOD", most.asked(), 5);
    }

    private static void starve() {
        OfferTurn x = Checks.valley("f100g0153-g1142-");
        Checks.due(32, "starve(2)", x.starve(2), 1);
        Checks.due(32, "starve(2), asked()", x.asked(), 0);
        x.rest(1);
        Checks.due(32, "starve(1)", x.starve(1), 1);
        x.store(1, 9);
        x.store(0, 0);
        Checks.due(32, "the first of alike ones", Checks.valley("f000g0153-g1142-").starve(3), 0);
        OfferTurn both = Checks.valley("f110g0153-g1142-");
        both.rest(1);
        Checks.due(32, "who is least missed", both.starve(2), 1);
        Checks.due(32, "by how much", both.asked(), 6);
        OfferTurn gone = Checks.valley("f990o0153-g1142-");
        gone.rest(3);
        Checks.due(32, "one GONE is not it", gone.starve(1), 1);
        Checks.due(32, "by how much", gone.asked(), 6);
        OfferTurn all = Checks.valley("f999o0153-");
        all.rest(3);
        long asked = all.asked();
        Checks.due(32, "all are GONE", all.starve(2), Checks.NONE);
        Checks.due(32, "asked() stays", all.asked(), asked);
    }

    private static void starveOfTwins() {
        OfferTurn x = Checks.valley("f900g0199-t0100A");
        Checks.due(32, "nor with another", x.starve(3), 0);
        Checks.due(32, "nor with another, asked()", x.asked(), 36);
        OfferTurn y = Checks.valley("f900g0100-t0199A");
        Checks.due(32, "nor with its TWIN", y.starve(3), 0);
        Checks.due(32, "nor with its TWIN, asked()", y.asked(), 36);
    }

    private static void price() {
        OfferTurn x = Checks.valley(ONE);
        Checks.told(33, x, "price(0, 2)", x.price(0, 2), 10);
        Checks.due(33, "it stays", x.count(2), 0);
        OfferTurn bad = Checks.valley("f000g0109-g1150-");
        Checks.told(33, bad, "below 0", bad.price(0, 2), -9);
        Checks.told(33, bad, "price(1, 3)", bad.price(1, 3), 5);
        OfferTurn eater = Checks.valley("f100g0159-t0101A");
        eater.rest(1);
        Checks.told(33, eater, "a TWIN for whom there is not enough", eater.price(1, 1), -10 - 5);
        OfferTurn gone = Checks.valley("f999o0153-g1142-");
        gone.rest(3);
        Checks.due(33, "GONE", gone.price(0, 1), Checks.STATE);
        Checks.due(33, "BAD first", gone.price(0, 4), Checks.BAD);
        Checks.told(33, gone, "of another", gone.price(1, 1), 4);
    }

    private static void altar() {
        OfferTurn x = Checks.valley("f100g1153-");
        x.rest(4);
        Checks.told(34, x, "as it is", x.altar(0, 1, 1, 1), -3);
        Checks.told(34, x, "another FOOD", x.altar(0, 0, 1, 1), 5);
        Checks.told(34, x, "another PATIENCE", x.altar(0, 1, 2, 1), 5);
        Checks.told(34, x, "both", x.altar(0, 2, 6, 3), 15);
        Checks.due(34, "FOOD stays", Checks.ask(x, 0, 1), 1);
        Checks.due(34, "PATIENCE stays", Checks.ask(x, 0, 2), 1);
        OfferTurn gone = Checks.valley("f999o0153-");
        gone.rest(3);
        Checks.due(34, "GONE", gone.altar(0, 0, 1, 1), Checks.STATE);
        Checks.due(34, "BAD first", gone.altar(0, 0, 1, 4), Checks.BAD);
        OfferTurn twins = Checks.valley("f900g0155-t1155A");
        twins.rest(4);
        Checks.told(34, twins, "TWINS eat together still", twins.altar(1, 0, 1, 1), 10);
    }

    private static void turns() {
        OfferTurn x = Checks.valley(ONE);
        x.share(1);
        Checks.told(35, x, "turns(1, 0)", x.turns(1, 0), 0);
        fraction(x, 12, 1);
        Checks.told(35, x, "turns(1, 1)", x.turns(1, 1), 5);
        fraction(x, 0, 1);
        Checks.told(35, x, "turns(1, 2)", x.turns(1, 2), 10);
        fraction(x, 0, 1);
        Checks.told(35, x, "turns(1, 3)", x.turns(1, 3), 7);
        fraction(x, 0, 1);
        Checks.told(35, x, "nobody's", x.turns(0, 3), 0);
        fraction(x, 0, 1);
        x.rest(1);
        Checks.told(35, x, "turns(1, 2) on DAY 1", x.turns(1, 2), 10);
        x.store(0, 0);
        Checks.told(35, x, "no FOOD", x.turns(1, 3), -9);
        fraction(x, 12, 1);
    }

    private static void turnsOfSets() {
        OfferTurn x = Checks.valley("f100g0153-g1190A");
        Checks.told(35, x, "turns(2, 1)", x.turns(2, 1), 9);
        fraction(x, 3, 1);
        Checks.told(35, x, "turns(2, 2)", x.turns(2, 2), 18);
        fraction(x, 3, 1);
        Checks.told(35, x, "turns(3, 1)", x.turns(3, 1), 14);
        fraction(x, 3, 1);
        x.store(2, 1);
        Checks.told(35, x, "the other one offers to whom it can't ABIDE", x.turns(2, 2), 9);
        fraction(x, 3, 1);
        x.rest(1);
        Checks.told(35, x, "the first one's", x.turns(1, 1), 5);
        fraction(x, 0, 1);
        OfferTurn last = Checks.valley("f001g0153-g1190A");
        last.rest(1);
        Checks.told(35, last, "of one that can be", last.turns(1, 1), 5);
        fraction(last, 2, 1);
    }

    /** All from promise 26 on leave the valley as it is, but for the rows that they are told. */
    private static void everythingStays() {
        OfferTurn x = Checks.valley("f555o0153-v1142At2133Bs0524C");
        x.offer(3);
        x.rest(1);
        x.row(0, 3);
        x.row(1, 3);
        x.best(3, 0);
        x.safe(1, 2);
        long before = x.digest();
        x.best(3, 0);
        x.tries(0);
        x.share(2);
        x.food(3);
        x.harm(2);
        x.starve(3);
        x.price(1, 3);
        x.altar(2, 1, 6, 3);
        x.turns(7, 3);
        x.fits(1, 0, 1);
        x.whose(0, 1);
        x.ask(1);
        x.year(77, 40);
        Checks.due(26, "digest() stays", x.digest() == before ? 1 : 0, 1);
    }

    private static void lateDays() {
        OfferTurn x = Checks.valley("f900s0153-g0153-");
        for (int i = 0; i < 6; i++) x.rest(30);
        x.rest(20);
        Checks.told(26, x, "best(2, 0) on DAY 200", x.best(2, 0), 5 - 3 + 5);
        Checks.plan(26, x, 0, 0, 3);
        Checks.due(27, "tries(0) on DAY 200", x.tries(0), 2);
        Checks.due(30, "food(1) on DAY 200", x.food(1), Checks.NONE);
    }
}
