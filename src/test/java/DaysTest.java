/** Promises 17 to 25, and what "2 HUNGER" says of a DAY. */
public final class DaysTest {
    public static void main(String[] args) {
        hungerOfAGod();
        twinsEatTogether();
        neighbours();
        jealousOnes();
        sleepers();
        foreignOnes();
        forgottenOnes();
        offersAreRefused();
        costs();
        rests();
        whatWasSent();
        undone();
        sums();
        kept();
        Checks.end();
    }

    private static void hungerOfAGod() {
        OfferTurn x = Checks.valley("f999g0253-");
        Checks.told(17, x, "offer(0)", x.offer(0), 5);
        Checks.due(17, "its FOOD", Checks.hunger(x, 0), 0);
        Checks.told(17, x, "offer(12)", x.offer(12), 5);
        Checks.told(17, x, "offer(12)", x.offer(12), 5);
        Checks.told(17, x, "HARM above PATIENCE", x.offer(12), -3);
        Checks.told(17, x, "another FOOD", x.offer(1), 5);
        Checks.due(17, "2 less", Checks.hunger(x, 0), 1);
        x.offer(2);
        Checks.due(17, "0 at least", Checks.hunger(x, 0), 0);
        Checks.due(17, "STORES of each", x.stores(0) * 100 + x.stores(1) * 10 + x.stores(2), 888);
        x.rest(12);
        Checks.due(17, "9 at most", Checks.hunger(x, 0), 9);
        Checks.told(17, x, "its FOOD when starved", x.offer(0), 5);
    }

    private static void twinsEatTogether() {
        OfferTurn x = Checks.valley("f999g0155-t0155At1155At2155B");
        Checks.due(18, "itself and both TWINS", x.may(0), 3);
        Checks.due(18, "OTHER, itself and its TWIN", x.may(3), 3);
        Checks.due(18, "OTHER and itself", x.may(6), 2);
        Checks.due(18, "no further ones", x.may(9), 2);
        x.rest(3);
        x.offer(2);
        int[] byFirst = {1, 1, 1, 4};
        for (int g = 0; g < 4; g++) Checks.due(17, "HUNGER behind offer(2) of " + g, Checks.hunger(x, g), byFirst[g]);
        Checks.due(17, "three were taken", x.stores(2), 6);
        x.undo(3);
        x.offer(3);
        int[] bySecond = {0, 0, 4, 1};
        for (int g = 0; g < 4; g++) Checks.due(17, "HUNGER behind offer(3) of " + g, Checks.hunger(x, g), bySecond[g]);
        x.undo(3);
        x.store(0, 2);
        Checks.due(18, "not so many", x.may(0), Checks.NONE);
        Checks.due(18, "just so many", x.may(6), 2);
        OfferTurn night = Checks.valley("f999s0155-t0155A");
        Checks.due(18, "by day two", night.may(3), 2);
        night.rest(1);
        Checks.due(18, "an OTHER that sleeps costs nothing", night.may(3), 1);
        night.offer(3);
        Checks.due(17, "and is not fed", Checks.hunger(night, 0), 1);
        Checks.due(17, "the TWIN is", Checks.hunger(night, 1), 0);
        OfferTurn gone = Checks.valley("f999o0155-t0155A");
        gone.rest(3);
        Checks.due(18, "an OTHER that is GONE costs nothing", gone.may(3), 1);
    }

    private static void neighbours() {
        OfferTurn x = Checks.valley("f999g0155-g0155At0155A");
        x.offer(0);
        Checks.due(17, "1 more besides", Checks.hunger(x, 1), 2);
        x.offer(3);
        Checks.due(17, "fed itself", Checks.hunger(x, 1), 0);
        Checks.due(17, "nobody it can't ABIDE", Checks.hunger(x, 0), 1);
        x.offer(6);
        Checks.due(17, "fed with another", Checks.hunger(x, 1), 2);
        OfferTurn twin = Checks.valley("f999g0155-t0155At0155Bj0155B");
        twin.offer(0);
        Checks.due(17, "a TWIN can ABIDE its OTHER", Checks.hunger(twin, 2), 1);
        Checks.due(17, "a JEALOUS one can't", Checks.hunger(twin, 3), 3);
    }

    private static void jealousOnes() {
        OfferTurn x = Checks.valley("f999g0155-j0155Ao0655A");
        x.offer(0);
        Checks.due(17, "2 more besides", Checks.hunger(x, 1), 3);
        Checks.due(17, "FOREIGN, too", Checks.hunger(x, 2), 3);
        x.offer(3);
        Checks.due(17, "fed", Checks.hunger(x, 1), 0);
        Checks.due(17, "1 more", Checks.hunger(x, 2), 4);
        x.rest(6);
        x.offer(0);
        Checks.due(17, "9 at most", Checks.hunger(x, 1), 9);
    }

    private static void sleepers() {
        OfferTurn x = Checks.valley("f999g0155-s0155A");
        x.offer(0);
        Checks.due(17, "awake on DAY 0", Checks.hunger(x, 1), 2);
        Checks.due(18, "may(3) on DAY 1", x.may(3), Checks.NONE);
        Checks.due(17, "offer(3) on DAY 1", x.offer(3), Checks.STATE);
        Checks.told(17, x, "offer(0) on DAY 1", x.offer(0), 5);
        Checks.due(17, "asleep: HUNGER stays", Checks.hunger(x, 1), 2);
        Checks.told(20, x, "it sent nothing", x.sent(1, 1), 0);
        Checks.due(18, "may(3) on DAY 2", x.may(3), 1);
        Checks.told(17, x, "offer(3) on DAY 2", x.offer(3), 10);
    }

    private static void foreignOnes() {
        OfferTurn x = Checks.valley("f999o0153-g1644-");
        Checks.told(17, x, "HUNGER 1", x.offer(12), 9);
        Checks.told(17, x, "HUNGER 2", x.offer(12), 1);
        Checks.due(17, "it is still there", x.count(2), 0);
        Checks.told(17, x, "HUNGER 3: HARM, and GONE behind it", x.offer(12), 1);
        Checks.due(17, "GONE", x.count(2), 1);
        Checks.told(17, x, "no more of it", x.offer(12), 4);
        Checks.due(17, "offer to one GONE", x.offer(0), Checks.STATE);
        Checks.due(18, "may of one GONE", x.may(1), Checks.NONE);
        Checks.told(20, x, "sent when GONE", x.sent(3, 0), 0);
        OfferTurn late = Checks.valley("f999o0653-");
        late.rest(6);
        late.patience(0, 1);
        Checks.told(17, late, "fed in time", late.offer(0), 5);
        Checks.due(17, "it stays", late.count(2), 0);
    }

    private static void forgottenOnes() {
        OfferTurn x = Checks.valley("f999v0153-");
        Checks.told(17, x, "nothing till it was fed", x.offer(12), 0);
        Checks.due(17, "it hungers", Checks.hunger(x, 0), 1);
        Checks.due(17, "it sleeps", x.offer(0), Checks.STATE);
        x.offer(12);
        Checks.told(17, x, "no HARM either", x.offer(12), 0);
        Checks.due(17, "it hungers still", Checks.hunger(x, 0), 2);
        x.rest(1);
        Checks.told(17, x, "fed: GOOD on that DAY", x.offer(2), 5);
        Checks.told(17, x, "asleep", x.offer(12), 0);
        x.rest(2);
        Checks.told(17, x, "HARM now", x.offer(12), -3);
    }

    private static void offersAreRefused() {
        OfferTurn x = new OfferTurn();
        Checks.due(17, "none such: no GODS", x.offer(0), Checks.BAD);
        Checks.due(17, "no GODS", x.offer(12), Checks.STATE);
        Checks.settle(x, "f100g0155-");
        Checks.due(17, "none such", x.offer(3), Checks.BAD);
        Checks.due(17, "offer(-1)", x.offer(-1), Checks.BAD);
        Checks.due(17, "offer(13)", x.offer(13), Checks.BAD);
        Checks.due(17, "no FOOD", x.offer(1), Checks.STATE);
        Checks.due(17, "no DAY went", x.count(1), 0);
        for (int i = 0; i < 6; i++) x.rest(30);
        x.rest(19);
        Checks.due(17, "DAY 199", x.offer(12), 1);
        Checks.due(17, "DAY 200", x.offer(12), Checks.FULL);
        Checks.due(17, "DAY 200, and it could be", x.offer(0), Checks.FULL);
        Checks.due(17, "FULL last", x.offer(2), Checks.STATE);
        Checks.due(17, "BAD first", x.offer(4), Checks.BAD);
        Checks.due(18, "may on DAY 200", x.may(0), 1);
    }

    private static void costs() {
        OfferTurn x = new OfferTurn();
        Checks.due(18, "may(12), no GODS", x.may(12), Checks.STATE);
        Checks.due(18, "may(0), no GODS", x.may(0), Checks.BAD);
        Checks.settle(x, "f010g0155-");
        Checks.due(18, "may(12)", x.may(12), 0);
        Checks.due(18, "may(0)", x.may(0), Checks.NONE);
        Checks.due(18, "may(1)", x.may(1), 1);
        Checks.due(18, "may(3)", x.may(3), Checks.BAD);
        Checks.due(18, "may(13)", x.may(13), Checks.BAD);
        Checks.due(18, "may(-1)", x.may(-1), Checks.BAD);
        Checks.due(18, "nothing is taken", x.stores(1), 1);
    }

    private static void rests() {
        OfferTurn x = new OfferTurn();
        Checks.due(19, "no GODS", x.rest(0), Checks.STATE);
        Checks.due(19, "BAD ahead of STATE", x.rest(-1), Checks.BAD);
        Checks.settle(x, "f000g0254-");
        Checks.told(19, x, "rest(3)", x.rest(3), 6);
        Checks.told(19, x, "rest(0)", x.rest(0), 0);
        Checks.due(19, "rest(31)", x.rest(31), Checks.BAD);
        Checks.due(19, "DAY 3", x.count(1), 3);
        Checks.due(21, "without an OFFERING", x.offered(2), 12);
        for (int i = 0; i < 6; i++) x.rest(30);
        Checks.due(19, "DAY 200 would be passed", x.rest(18), Checks.FULL);
        Checks.due(19, "nothing went", x.count(1), 183);
        Checks.told(19, x, "up to DAY 200", x.rest(17), -68);
        Checks.due(19, "DAY 200", x.count(1), 200);
        Checks.due(19, "rest(1)", x.rest(1), Checks.FULL);
        Checks.told(19, x, "rest(0) on DAY 200", x.rest(0), 0);
    }

    private static void whatWasSent() {
        OfferTurn x = new OfferTurn();
        Checks.due(20, "sent, no GODS", x.sent(0, 0), Checks.BAD);
        Checks.finds(21, x, "offered, no GODS", x.offered(0), Checks.BEYOND);
        Checks.settle(x, "f999g0153-g1140A");
        x.offer(0);
        x.offer(4);
        x.rest(1);
        int[][] want = {{5, 0}, {5, 4}, {-3, 4}};
        for (int day = 0; day < 3; day++) {
            for (int g = 0; g < 2; g++) {
                Checks.told(20, x, "sent(" + day + ", " + g + ")", x.sent(day, g), want[day][g]);
            }
        }
        Checks.due(21, "offered(0)", x.offered(0), 0);
        Checks.due(21, "offered(1)", x.offered(1), 4);
        Checks.due(21, "offered(2)", x.offered(2), 12);
        Checks.due(20, "sent(0, 2)", x.sent(0, 2), Checks.BAD);
        Checks.due(20, "sent(0, -1)", x.sent(0, -1), Checks.BAD);
        Checks.due(20, "sent(-1, 0)", x.sent(-1, 0), Checks.BAD);
        Checks.finds(20, x, "sent(3, 0)", x.sent(3, 0), Checks.BEYOND);
        Checks.due(21, "offered(-1)", x.offered(-1), Checks.BAD);
        Checks.finds(21, x, "offered(3)", x.offered(3), Checks.BEYOND);
        x.undo(2);
        Checks.finds(20, x, "sent on an undone DAY", x.sent(2, 0), Checks.BEYOND);
        Checks.finds(21, x, "offered on an undone DAY", x.offered(2), Checks.BEYOND);
    }

    private static void undone() {
        OfferTurn x = new OfferTurn();
        Checks.due(22, "undo(0), no GODS", x.undo(0), 0);
        Checks.due(22, "undo(1), no GODS", x.undo(1), Checks.BAD);
        Checks.settle(x, "f999o0153-v1153-");
        x.offer(3);
        x.store(0, 50);
        x.offer(0);
        x.patience(1, 6);
        x.store(0, 77);
        x.rest(3);
        Checks.due(22, "GONE", x.count(2), 1);
        Checks.due(22, "undo(6)", x.undo(6), Checks.BAD);
        Checks.due(22, "undo(-1)", x.undo(-1), Checks.BAD);
        Checks.due(22, "undo(5)", x.undo(5), 0);
        Checks.due(22, "STORES stay with it", x.stores(0), 77);
        Checks.due(22, "undo(1)", x.undo(1), 4);
        Checks.due(22, "DAY 1", x.count(1), 1);
        Checks.due(22, "nobody is GONE", x.count(2), 0);
        Checks.due(22, "STORES as they were ahead of DAY 1", x.stores(0), 50);
        Checks.due(22, "HUNGER", Checks.hunger(x, 0), 1);
        Checks.due(22, "PATIENCES stay", Checks.ask(x, 1, 2), 6);
        Checks.due(22, "it was fed on DAY 0", x.mark(1, 5), 1);
        Checks.due(22, "what was sent on DAY 0", x.sums(), 10);
        Checks.due(22, "undo(0)", x.undo(0), 1);
        Checks.due(22, "STORES of DAY 0", x.stores(0), 9);
        Checks.due(22, "never fed", x.mark(1, 5), 0);
        Checks.due(22, "nothing was sent", x.sums(), 0);
        undoneOnDay200();
        OfferTurn changed = Checks.valley("f999o0653-");
        changed.rest(5);
        changed.patience(0, 1);
        changed.undo(4);
        Checks.due(22, "not reckoned anew by the new PATIENCE", changed.count(2), 0);
        Checks.due(22, "what was sent stays", changed.sums(), 20);
    }

    private static void undoneOnDay200() {
        OfferTurn x = Checks.valley("f999v0155-o0155-");
        for (int i = 0; i < 199; i++) x.offer(12);
        x.store(0, 50);
        x.keep(1);
        x.store(0, 20);
        x.offer(12);
        Checks.due(24, "keep(2)", x.keep(2), 200);
        x.store(0, 3);
        Checks.due(22, "undo(199)", x.undo(199), 1);
        Checks.due(22, "STORES ahead of DAY 199", x.stores(0), 20);
        Checks.due(22, "GONE since DAY 2", x.count(2), 1);
        Checks.due(22, "undo(0)", x.undo(0), 199);
        Checks.due(22, "nobody is GONE", x.count(2), 0);
        x.offer(3);
        x.offer(3);
        Checks.due(25, "on(2)", x.on(2), 200);
        Checks.due(25, "DAY 0 of it", x.offered(0), 12);
        Checks.due(25, "DAY 199 of it", x.offered(199), 12);
        Checks.due(25, "it is FULL", x.offer(12), Checks.FULL);
        x.undo(150);
        Checks.told(25, x, "what was sent on DAY 2 of it", x.sent(2, 1), -5);
        Checks.due(25, "on(1)", x.on(1), 199);
        Checks.due(25, "its STORES", x.stores(0), 50);
        Checks.due(25, "never fed", x.mark(0, 5), 0);
    }

    private static void sums() {
        OfferTurn x = new OfferTurn();
        Checks.due(23, "sums(), no GODS", x.sums(), 0);
        Checks.settle(x, "f999g0153-g1142-");
        x.rest(3);
        Checks.due(23, "all GOOD", x.sums(), 9);
        Checks.due(23, "all HARM", x.asked(), 10);
        x.tries(0);
        x.best(2, 0);
        Checks.due(23, "plans send nothing", x.sums(), 9);
        x.undo(2);
        Checks.due(23, "less by undo()", x.sums(), 9);
        Checks.due(23, "less HARM", x.asked(), 5);
    }

    private static void kept() {
        OfferTurn x = new OfferTurn();
        Checks.due(24, "no GODS", x.keep(0), Checks.STATE);
        Checks.due(24, "keep(3)", x.keep(3), Checks.BAD);
        Checks.due(24, "keep(-1)", x.keep(-1), Checks.BAD);
        Checks.finds(25, x, "on(0)", x.on(0), Checks.NOTHING);
        Checks.due(25, "on(3)", x.on(3), Checks.BAD);
        Checks.due(25, "on(-1)", x.on(-1), Checks.BAD);
        Checks.settle(x, "f999o0153-g1142-");
        x.offer(4);
        Checks.due(24, "keep(2)", x.keep(2), 1);
        Checks.due(24, "count(5)", x.count(5), 1);
        long before = x.digest();
        x.patience(1, 5);
        x.store(2, 33);
        x.rest(7);
        Checks.due(24, "keep(0)", x.keep(0), 8);
        Checks.due(25, "on(2)", x.on(2), 1);
        Checks.due(25, "PATIENCE", Checks.ask(x, 1, 2), 1);
        Checks.due(25, "STORES", x.stores(2), 9);
        Checks.due(25, "nobody is GONE", x.count(2), 0);
        Checks.due(25, "DAYS", x.offered(0), 4);
        Checks.due(25, "no further DAY", x.offered(1), Checks.FINDING);
        Checks.due(25, "sent on it", x.sent(0, 1) + x.asked(), 5);
        Checks.due(25, "undo() goes on", x.undo(0), 1);
        Checks.due(25, "to what was ahead", x.stores(1), 9);
        Checks.due(25, "on(2) once more", x.on(2), 1);
        Checks.due(25, "on(0)", x.on(0), 8);
        Checks.due(25, "its own PATIENCE", Checks.ask(x, 1, 2), 5);
        Checks.due(25, "GONE there", x.count(2), 1);
        Checks.due(25, "its DAYS", x.offered(7), 12);
        Checks.due(25, "all its sums", x.sums() + x.asked(), 5 + 4 + 3 + 3 + 4 * 5 + 2 * 2);
        Checks.due(25, "undo() there", x.undo(1), 7);
        Checks.due(25, "STORES of then", x.stores(2), 33);
        OfferTurn fed = Checks.valley("f999v0155-j0155A");
        fed.keep(0);
        fed.offer(0);
        fed.keep(1);
        fed.on(0);
        Checks.due(25, "not fed yet", fed.mark(0, 5) * 100 + fed.mark(1, 2), -9);
        fed.on(1);
        Checks.due(25, "fed there", fed.mark(0, 5) * 100 + fed.mark(1, 2), 100);
        OfferTurn y = Checks.valley("f999o0153-g1142-");
        y.offer(4);
        y.keep(2);
        Checks.due(24, "keep() alone changes as much", y.digest() == before ? 1 : 0, 1);
    }
}
