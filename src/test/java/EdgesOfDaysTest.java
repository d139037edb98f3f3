/** The bounds that the document names for HUNGER, DAYS and OFFERINGS, sentence by sentence: promises 17 to 25. */
public final class EdgesOfDaysTest {
    private static final int MOST = Integer.MAX_VALUE;
    private static final int LEAST = Integer.MIN_VALUE;

    public static void main(String[] args) {
        twinsAreFedTogether();
        jealousAndForeignOnesAreKinds();
        sleepersSleepOnOddDays();
        forgottenOnesSendNothing();
        hungerIsNoughtAtFirst();
        daysGoByOneByOne();
        oneOrMoreAreTaken();
        whoIsFed();
        whatCanBe();
        othersWhoAreNotFed();
        hungerGrows();
        hungerOfTheFed();
        hungerByNeighbours();
        hungerOfTheJealous();
        whatIsSent();
        whoWasForgottenTillNow();
        whoIsGone();
        worths();
        numbers();
        offers();
        noOffers();
        mayBe();
        mayNot();
        rests();
        noRests();
        whatWasSent();
        whatWasNotSent();
        whatWasOffered();
        whatWasNotOffered();
        undone();
        undoneAsItWas();
        notUndone();
        sums();
        kept();
        notKept();
        on();
        onToOtherDays();
        notOn();
        Checks.end();
    }

    private static void twinsAreFedTogether() {
        Checks.says(0, "KINDS of GODS: 0 GOD, 1 TWIN (a GOD: fed, if its OTHER is, and the other way about),");
        Subject x = Subject.valley("f999g0153-t1153A");
        x.call("rest", 4);
        x.call("offer", 0);
        x.hungers(0, 2);
        x.call("offer", 4);
        x.hungers(0, 0);
    }

    private static void jealousAndForeignOnesAreKinds() {
        Checks.says(0, "2 JEALOUS (a GOD),");
        Subject x = Subject.valley("f999j0153-g0153-");
        x.tells(10, "offer", 0);
        x.hungers(0, 1);
        Checks.says(0, "4 FOREIGN (a JEALOUS),");
        x = Subject.valley("f999g0153-o0153A");
        x.answers(1, "count", 3);
        x.call("offer", 0);
        x.hungers(0, Checks.NONE);
    }

    private static void sleepersSleepOnOddDays() {
        Checks.says(0, "3 SLEEPER (a GOD: on odd DAYS it sleeps),");
        Subject x = Subject.valley("f999s0153-v0153-");
        for (int day = 0; day < 6; day++) {
            for (int g = 0; g < 2; g++) x.answers(day % 2 == 0 ? 1 : Checks.NONE, "may", 3 * g);
            x.call("offer", day % 4 == 0 ? 0 : 12);
        }
        x.tells(5, "sent", 0, 0);
        x.tells(0, "sent", 1, 0);
        x.tells(5, "sent", 2, 0);
        x.tells(0, "sent", 3, 0);
        x.hungers(0, 3);
    }

    private static void forgottenOnesSendNothing() {
        Checks.says(0, "5 FORGOTTEN (a SLEEPER: sends nothing till it was fed once).");
        Subject x = Subject.valley("f999v0153-");
        for (int day = 0; day < 5; day++) x.tells(0, "offer", 12);
        x.hungers(3);
        x.tells(0, "offer", 12);
        x.tells(5, "offer", 1);
        x.tells(0, "offer", 12);
        x.tells(-3, "offer", 12);
    }

    private static void hungerIsNoughtAtFirst() {
        Checks.says(0, "2 HUNGER of each GOD is 0 .. 9 (0 at first).");
        Subject x = Subject.valley("f999g0153-t0153Aj0153Bv0153-");
        x.hungers(0, 0, 0, 0);
        x.restTill(40);
        x.hungers(9, 9, 9, 9);
        x.call("offer", 0);
        x.hungers(0, 0, 9, 9);
        x.call("offer", 0);
        x.hungers(0, 0, 9, 9);
    }

    private static void daysGoByOneByOne() {
        Checks.says(0, "DAYS go by one by one (DAY 0 first).");
        Subject x = Subject.valley("f999g0153-");
        for (int day = 0; day < 5; day++) {
            x.answers(day, "count", 1);
            x.finds(Checks.BEYOND, "offered", day);
            x.call("offer", day < 3 ? day : 12);
            x.answers(day < 3 ? day : 12, "offered", day);
        }
        Checks.says(0, "A DAY has an OFFERING (a GOD and a FOOD) or none. In this order:");
        x.stores(8, 8, 8);
        x.answers(12, "offered", 4);
    }

    private static void oneOrMoreAreTaken() {
        Checks.says(0, "(a) The OFFERING: one of the FOOD is taken from STORES, and one more for each other that is "
            + "fed by it:");
        Subject x = Subject.valley("f999g0153-t0153At0153At0153A");
        x.call("offer", 1);
        x.stores(9, 5, 9);
        x.call("offer", 3);
        x.stores(7, 5, 9);
        x.call("offer", 12);
        x.stores(7, 5, 9);
        Subject one = Subject.valley("f001g0153-");
        one.call("offer", 2);
        one.stores(0, 0, 0);
    }

    private static void whoIsFed() {
        Checks.says(0, "all TWINS whose OTHER it is, its OTHER, if it is a TWIN (each once; no further ones).");
        String chain = "f999g0153-t0153At0153Bt0153C";
        int[] costs = {2, 3, 3, 2};
        int[][] hungers = {{0, 0, 4, 4}, {0, 0, 0, 4}, {4, 0, 0, 0}, {4, 4, 0, 0}};
        for (int g = 0; g < 4; g++) {
            Subject x = Subject.valley(chain);
            x.call("rest", 3);
            x.answers(costs[g], "may", 3 * g);
            x.call("offer", 3 * g);
            x.hungers(hungers[g]);
            x.stores(9 - costs[g], 9, 9);
        }
        Subject star = Subject.valley("f999g0153-t0153At0153At0153A");
        for (int g = 0; g < 4; g++) star.answers(g == 0 ? 4 : 2, "may", 3 * g);
        Subject neighbours = Subject.valley("f999g0153-g0153Aj0153As0153A");
        for (int g = 0; g < 4; g++) neighbours.answers(1, "may", 3 * g);
    }

    private static void whatCanBe() {
        Checks.says(0, "It can be, if there are so many, the GOD is not GONE and does not sleep");
        Subject x = Subject.valley("f123g0153-t0153At0153A");
        x.refuses(Checks.NONE, "may", 0);
        x.refuses(Checks.STATE, "offer", 0);
        x.refuses(Checks.NONE, "may", 1);
        x.answers(3, "may", 2);
        x.refuses(Checks.NONE, "may", 3);
        x.answers(2, "may", 4);
        x.answers(1, "offer", 2);
        x.stores(1, 2, 0);
        x.answers(1, "offer", 7);
        x.stores(1, 0, 0);
        for (int number = 0; number < 9; number++) x.refuses(Checks.NONE, "may", number);
        x.answers(0, "may", 12);
        Subject gone = Subject.valley("f999o0153-s0153-");
        gone.call("rest", 2);
        gone.answers(1, "may", 2);
        gone.answers(1, "may", 5);
        gone.call("rest", 1);
        for (int number = 0; number < 6; number++) gone.refuses(Checks.NONE, "may", number);
        gone.refuses(Checks.STATE, "offer", 0);
        gone.refuses(Checks.STATE, "offer", 3);
        gone.call("rest", 1);
        gone.refuses(Checks.STATE, "offer", 0);
        gone.answers(1, "offer", 3);
        Subject asleep = Subject.valley("f900s0153-t0153A");
        asleep.answers(2, "may", 0);
        asleep.call("rest", 1);
        asleep.refuses(Checks.NONE, "may", 0);
        asleep.refuses(Checks.STATE, "offer", 0);
        Subject left = Subject.valley("f900o0153-t0153A");
        left.call("rest", 3);
        left.refuses(Checks.NONE, "may", 0);
        left.refuses(Checks.STATE, "offer", 0);
    }

    private static void othersWhoAreNotFed() {
        Checks.says(0, "(others that are GONE or sleep are not fed, and cost nothing).");
        Subject asleep = Subject.valley("f100s0153-t0153A");
        asleep.refuses(Checks.NONE, "may", 3);
        asleep.call("rest", 1);
        asleep.answers(1, "may", 3);
        asleep.call("offer", 3);
        asleep.hungers(1, 0);
        asleep.stores(0, 0, 0);
        Subject gone = Subject.valley("f100o0153-t0153A");
        gone.call("rest", 3);
        gone.answers(1, "may", 3);
        gone.call("offer", 3);
        gone.hungers(Checks.NONE, 0);
        gone.stores(0, 0, 0);
        gone.tells(0, "sent", 3, 0);
    }

    private static void hungerGrows() {
        Checks.says(0, "(b) HUNGER of all that are not GONE, do not sleep and are not fed is 1 more (9 at most).");
        Subject x = Subject.valley("f999g0653-s0653-o0153-g0653-");
        x.call("offer", 0);
        x.hungers(0, 1, 1, 1);
        x.call("offer", 0);
        x.hungers(0, 1, 2, 2);
        x.call("offer", 12);
        x.hungers(1, 2, Checks.NONE, 3);
        x.call("offer", 12);
        x.hungers(2, 2, Checks.NONE, 4);
        x.restTill(8);
        x.hungers(6, 4, Checks.NONE, 8);
        x.restTill(9);
        x.hungers(7, 5, Checks.NONE, 9);
        x.restTill(10);
        x.hungers(8, 5, Checks.NONE, 9);
        x.restTill(12);
        x.hungers(9, 6, Checks.NONE, 9);
    }

    private static void hungerOfTheFed() {
        Checks.says(0, "Of one that is fed it becomes 0, if that is its FOOD, else it is 2 less (0 at least).");
        for (int hunger = 0; hunger <= 9; hunger++) {
            Subject x = Subject.valley("f999g1153-t2153A");
            x.call("rest", hunger);
            x.call("offer", 0);
            x.hungers(Math.max(0, hunger - 2), Math.max(0, hunger - 2));
            x.call("undo", hunger);
            x.call("offer", 1);
            x.hungers(0, Math.max(0, hunger - 2));
            x.call("undo", hunger);
            x.call("offer", 5);
            x.hungers(Math.max(0, hunger - 2), 0);
        }
    }

    private static void hungerByNeighbours() {
        Checks.says(0, "Of each that can't ABIDE one of those that are fed (not GONE, awake, not fed itself) it is 1 "
            + "more besides;");
        Subject x = Subject.valley("f999g0153-t0153As0153Bg0153A");
        x.call("offer", 0);
        x.hungers(0, 0, 2, 2);
        x.call("offer", 3);
        x.hungers(0, 0, 2, 4);
        x.call("offer", 9);
        x.hungers(1, 1, 3, 0);
        x.call("offer", 9);
        x.hungers(2, 2, 3, 0);
        x.call("rest", 8);
        x.hungers(9, 9, 7, 8);
        x.call("offer", 0);
        x.hungers(0, 0, 9, 9);
        x.call("offer", 0);
        x.hungers(0, 0, 9, 9);
        Subject twin = Subject.valley("f999s0153-t0153At0153A");
        twin.call("offer", 3);
        twin.hungers(0, 0, 1);
    }

    private static void hungerOfTheJealous() {
        Checks.says(0, "of a JEALOUS one (FOREIGN, too) 2 more (9 at most).");
        Subject x = Subject.valley("f999g0653-j0653Ao0653Ag0653-");
        x.call("offer", 0);
        x.hungers(0, 3, 3, 1);
        x.call("offer", 9);
        x.hungers(1, 4, 4, 0);
        x.call("offer", 4);
        x.hungers(2, 2, 5, 1);
        x.call("offer", 12);
        x.hungers(3, 3, 6, 2);
        x.call("offer", 0);
        x.hungers(0, 6, Checks.NONE, 3);
        x.call("offer", 0);
        x.hungers(0, 9, Checks.NONE, 4);
        x.call("offer", 0);
        x.hungers(0, 9, Checks.NONE, 5);
        Subject near = Subject.valley("f999g0653-j0653A");
        near.call("rest", 7);
        near.call("offer", 0);
        near.hungers(0, 9);
        Subject eight = Subject.valley("f999g0653-j0653A");
        eight.call("rest", 8);
        eight.call("offer", 0);
        eight.hungers(0, 9);
    }

    private static void whatIsSent() {
        Checks.says(0, "(c) Each that is not GONE and does not sleep sends: GOOD, if HUNGER is not above its "
            + "PATIENCE, else HARM");
        for (int patience = 1; patience <= 6; patience++) {
            Subject x = Subject.valley("f999g0" + patience + "53-");
            for (int day = 0; day < 8; day++) x.tells(day + 1 <= patience ? 5 : -3, "offer", 12);
        }
        Subject none = Subject.valley("f999g0190-s0109-o0153-");
        none.tells(9 - 0 + 5, "offer", 12);
        none.tells(0 + 0 - 3, "offer", 12);
        none.tells(0 - 9 - 3, "offer", 12);
        none.tells(0, "offer", 12);
        int[][] sent = {{9, 0, 0, 0}, {0, 0, -9, 0}, {5, -3, -3, 0}};
        for (int g = 0; g < 3; g++) for (int day = 0; day < 4; day++) none.tells(sent[g][day], "sent", day, g);
    }

    private static void whoWasForgottenTillNow() {
        Checks.says(0, "(a FORGOTTEN one nothing till it was fed).");
        Subject x = Subject.valley("f999v1153-t1153A");
        x.call("rest", 4);
        x.tells(0, "sent", 2, 0);
        x.tells(5 + 5, "offer", 1);
        x.tells(5, "sent", 4, 0);
        x.call("undo", 4);
        x.tells(5 - 3, "offer", 0);
        x.tells(5, "sent", 4, 0);
        x.call("undo", 4);
        x.tells(10, "offer", 4);
        x.tells(5, "sent", 4, 0);
        x.call("undo", 4);
        x.call("rest", 2);
        x.tells(0 - 3, "offer", 12);
        x.tells(0, "sent", 6, 0);
    }

    private static void whoIsGone() {
        Checks.says(0, "A FOREIGN one whose HUNGER is above its PATIENCE by 2 or more is GONE behind that.");
        for (int patience = 1; patience <= 6; patience++) {
            Subject x = Subject.valley("f999o0" + patience + "53-j0" + patience + "53-");
            for (int day = 1; day <= 9; day++) {
                x.call("rest", 1);
                x.answers(day >= patience + 2 ? 1 : 0, "count", 2);
                x.tells(day <= patience ? 5 : day <= patience + 2 ? -3 : 0, "sent", day - 1, 0);
            }
            x.hungers(Checks.NONE, 9);
        }
        Subject far = Subject.valley("f999g0153-o0153A");
        far.tells(5 - 3, "offer", 0);
        far.answers(1, "count", 2);
        Subject saved = Subject.valley("f999o0653-");
        saved.call("rest", 6);
        saved.call("patience", 0, 2);
        saved.answers(0, "count", 2);
        saved.tells(-3, "offer", 1);
        saved.answers(1, "count", 2);
        saved.call("undo", 6);
        saved.call("patience", 0, 3);
        saved.tells(-3, "offer", 1);
        saved.answers(0, "count", 2);
    }

    private static void worths() {
        Checks.says(0, "WORTH of a DAY is all GOOD less all HARM sent.");
        Subject x = Subject.valley("f999g0199-g0290-g0309-g0400-");
        x.tells(18, "offer", 12);
        x.tells(-9 + 9, "offer", 12);
        x.tells(-9 - 0, "offer", 12);
        x.tells(-9 - 9, "offer", 12);
    }

    private static void numbers() {
        Checks.says(0, "A number of an OFFERING: 3 times the GOD and the FOOD (of GODS that there are; else it is "
            + "none such); 12: none.");
        String gods = "";
        for (int many = 1; many <= 4; many++) {
            gods += "g0153-";
            Subject x = Subject.valley("f999" + gods);
            for (int number = 0; number < 12; number++) {
                if (number < 3 * many) x.answers(1, "may", number);
                else x.refuses(Checks.BAD, "may", number);
            }
            x.answers(0, "may", 12);
            for (int number : new int[] {-1, 13, MOST, LEAST}) x.refuses(Checks.BAD, "may", number);
            x.call("rest", 3);
            x.call("offer", 3 * many - 1);
            x.stores(9, 9, 8);
            x.tells(1, "god", many - 1, 6);
        }
    }

    private static void offers() {
        Checks.says(17, "A DAY with an OFFERING by its number (12: none): its WORTH by asked(): 1.");
        Subject x = Subject.valley("f999g0153-g0142-");
        x.tells(9, "offer", 0);
        x.tells(5 - 2, "offer", 12);
        x.tells(-3 + 4, "offer", 5);
        x.answers(3, "count", 1);
        x.restTill(199);
        x.tells(5 - 2, "offer", 0);
        x.answers(200, "count", 1);
    }

    private static void noOffers() {
        Checks.says(17, "BAD; STATE: no GODS, or it can't be; FULL: DAY 200. (FULL last.)");
        Subject x = new Subject();
        x.refuses(Checks.STATE, "offer", 12);
        for (int number : new int[] {-1, 0, 11, 13, MOST, LEAST}) x.refuses(Checks.BAD, "offer", number);
        x.settle("f900s0153-o0153-");
        x.refuses(Checks.STATE, "offer", 1);
        x.restTill(199);
        x.refuses(Checks.STATE, "offer", 0);
        x.refuses(Checks.STATE, "offer", 3);
        x.answers(1, "offer", 12);
        x.refuses(Checks.FULL, "offer", 12);
        x.refuses(Checks.FULL, "offer", 0);
        x.refuses(Checks.STATE, "offer", 1);
        x.refuses(Checks.STATE, "offer", 3);
        x.refuses(Checks.BAD, "offer", 6);
        x.refuses(Checks.BAD, "offer", 13);
        x.call("undo", 198);
        x.answers(1, "offer", 0);
        x.answers(1, "offer", 12);
        x.refuses(Checks.FULL, "offer", 12);
    }

    private static void mayBe() {
        Checks.says(18, "Whether an OFFERING can be: how much FOOD it costs (none: 0); NONE: it can't.");
        Subject x = Subject.valley("f430g0153-t0153At0153At0153A");
        x.answers(4, "may", 0);
        x.refuses(Checks.NONE, "may", 1);
        x.answers(2, "may", 4);
        x.refuses(Checks.NONE, "may", 5);
        x.answers(0, "may", 12);
        x.stores(4, 3, 0);
        x.restTill(200);
        x.answers(4, "may", 0);
        x.answers(0, "may", 12);
    }

    private static void mayNot() {
        Checks.says(18, "BAD; STATE: no GODS.");
        Subject x = new Subject();
        for (int number : new int[] {-1, 0, 11, 13, MOST, LEAST}) x.refuses(Checks.BAD, "may", number);
        x.refuses(Checks.STATE, "may", 12);
        x.settle("f999");
        x.refuses(Checks.STATE, "may", 12);
        x.refuses(Checks.BAD, "may", 0);
    }

    private static void rests() {
        Checks.says(19, "n (0 .. 30) DAYS without an OFFERING: their WORTH together by asked(): 1.");
        Subject x = Subject.valley("f999g0153-");
        x.tells(0, "rest", 0);
        x.answers(0, "count", 1);
        x.tells(5, "rest", 1);
        x.tells(-3 * 30, "rest", 30);
        x.answers(31, "count", 1);
        for (int day : new int[] {0, 1, 30}) x.answers(12, "offered", day);
        x.stores(9, 9, 9);
        x.tells(0, "rest", 0);
    }

    private static void noRests() {
        Checks.says(19, "BAD; STATE: no GODS; FULL: DAY 200 would be passed. (FULL last.)");
        Subject x = new Subject();
        for (int n : new int[] {-1, 31, MOST, LEAST}) x.refuses(Checks.BAD, "rest", n);
        x.refuses(Checks.STATE, "rest", 0);
        x.refuses(Checks.STATE, "rest", 30);
        x.settle("f999g0153-");
        x.restTill(171);
        x.refuses(Checks.FULL, "rest", 30);
        x.refuses(Checks.BAD, "rest", 31);
        x.tells(-3 * 29, "rest", 29);
        x.answers(200, "count", 1);
        x.refuses(Checks.FULL, "rest", 1);
        x.refuses(Checks.FULL, "rest", 30);
        x.refuses(Checks.BAD, "rest", 31);
        x.refuses(Checks.BAD, "rest", MOST);
        x.tells(0, "rest", 0);
        x.call("undo", 170);
        x.tells(-3 * 30, "rest", 30);
    }

    private static void whatWasSent() {
        Checks.says(20, "What a GOD sent on a DAY that has been (below 0: HARM), told by asked(): 1.");
        Subject x = Subject.valley("f999g0159-s0190-");
        x.call("rest", 3);
        int[][] want = {{5, 9}, {-9, 0}, {-9, 0}};
        for (int day = 0; day < 3; day++) for (int g = 0; g < 2; g++) x.tells(want[day][g], "sent", day, g);
        x.restTill(199);
        x.call("offer", 0);
        x.tells(5, "sent", 199, 0);
        x.tells(-9, "sent", 198, 0);
        x.tells(5, "sent", 0, 0);
    }

    private static void whatWasNotSent() {
        Checks.says(20, "BAD; BEYOND: no such DAY.");
        Subject x = new Subject();
        x.refuses(Checks.BAD, "sent", 0, 0);
        x.settle("f999g0159-");
        x.finds(Checks.BEYOND, "sent", 0, 0);
        x.call("rest", 2);
        for (int g : new int[] {-1, 1, MOST, LEAST}) {
            x.refuses(Checks.BAD, "sent", 0, g);
            x.refuses(Checks.BAD, "sent", 9, g);
        }
        for (int day : new int[] {-1, LEAST}) x.refuses(Checks.BAD, "sent", day, 0);
        for (int day : new int[] {2, 200, MOST}) x.finds(Checks.BEYOND, "sent", day, 0);
        x.restTill(200);
        x.finds(Checks.BEYOND, "sent", 200, 0);
        x.call("undo", 1);
        x.finds(Checks.BEYOND, "sent", 1, 0);
        x.tells(5, "sent", 0, 0);
    }

    private static void whatWasOffered() {
        Checks.says(21, "The OFFERING of a DAY that has been (12: none).");
        Subject x = Subject.valley("f999g0153-g0153-g0153-g0153-");
        x.call("offer", 11);
        x.call("offer", 0);
        x.call("offer", 12);
        x.restTill(199);
        x.call("offer", 4);
        int[] days = {0, 1, 2, 3, 198, 199};
        int[] numbers = {11, 0, 12, 12, 12, 4};
        for (int i = 0; i < days.length; i++) x.answers(numbers[i], "offered", days[i]);
    }

    private static void whatWasNotOffered() {
        Checks.says(21, "BAD: below 0; BEYOND.");
        Subject x = new Subject();
        for (int day : new int[] {-1, LEAST}) x.refuses(Checks.BAD, "offered", day);
        for (int day : new int[] {0, 1, MOST}) x.finds(Checks.BEYOND, "offered", day);
        x.settle("f999g0153-");
        x.finds(Checks.BEYOND, "offered", 0);
        x.restTill(200);
        for (int day : new int[] {-1, LEAST}) x.refuses(Checks.BAD, "offered", day);
        for (int day : new int[] {200, 201, MOST}) x.finds(Checks.BEYOND, "offered", day);
        x.call("undo", 0);
        x.finds(Checks.BEYOND, "offered", 0);
    }

    private static void undone() {
        Checks.says(22, "DAYS from one (0 .. the DAY) on are undone");
        Subject x = Subject.valley("f999g0153-");
        x.answers(0, "undo", 0);
        x.restTill(200);
        x.refuses(0, "undo", 200);
        x.answers(1, "undo", 199);
        x.answers(199, "count", 1);
        x.refuses(0, "undo", 199);
        x.answers(198, "undo", 1);
        x.answers(1, "undo", 0);
        x.answers(0, "count", 1);
        x.hungers(0);
        x.refuses(0, "undo", 0);
    }

    private static void undoneAsItWas() {
        Checks.says(22, "(all as it was ahead of that one, STORES, too; PATIENCES stay): how many.");
        Subject x = Subject.valley("f999o0153-v0153-");
        x.call("offer", 3);
        x.call("store", 1, 50);
        x.call("offer", 1);
        x.call("store", 1, 70);
        x.call("patience", 1, 6);
        x.call("rest", 4);
        x.answers(1, "count", 2);
        x.refuses(0, "undo", 6);
        x.answers(4, "undo", 2);
        x.answers(0, "count", 2);
        x.stores(8, 70, 9);
        x.hungers(0, 0);
        x.answers(1, "undo", 1);
        x.stores(8, 50, 9);
        x.hungers(1, 0);
        x.answers(1, "mark", 1, 5);
        x.answersAndTells(10, 0, "sums");
        x.tells(6, "god", 1, 2);
        x.answers(1, "undo", 0);
        x.stores(9, 9, 9);
        x.hungers(0, 0);
        x.answers(0, "mark", 1, 5);
        x.answersAndTells(0, 0, "sums");
        x.tells(6, "god", 1, 2);
        x.call("rest", 3);
        x.call("patience", 1, 1);
        x.answers(1, "undo", 2);
        x.hungers(2, 1);
        x.answersAndTells(5, 3, "sums");
        x.call("rest", 3);
        x.answers(2, "undo", 3);
        x.hungers(Checks.NONE, 2);
        x.answersAndTells(5, 6, "sums");
        x.restTill(199);
        x.call("undo", 198);
        x.call("offer", 4);
        x.call("store", 2, 33);
        x.call("rest", 1);
        x.call("store", 2, 44);
        x.answers(1, "undo", 199);
        x.stores(9, 8, 33);
        x.answersAndTells(5, 6 + 3, "sums");
        x.answers(1, "mark", 1, 5);
        x.answers(1, "undo", 198);
        x.stores(9, 9, 9);
        x.answers(0, "mark", 1, 5);
    }

    private static void notUndone() {
        Checks.says(22, "BAD.");
        Subject x = new Subject();
        x.refuses(0, "undo", 0);
        for (int day : new int[] {-1, 1, MOST, LEAST}) x.refuses(Checks.BAD, "undo", day);
        x.settle("f999g0153-");
        x.refuses(Checks.BAD, "undo", 1);
        x.call("rest", 5);
        for (int day : new int[] {-1, 6, 200, MOST, LEAST}) x.refuses(Checks.BAD, "undo", day);
        x.restTill(200);
        x.refuses(Checks.BAD, "undo", 201);
    }

    private static void sums() {
        Checks.says(23, "All GOOD that was sent, all HARM by asked().");
        Subject x = new Subject();
        x.answersAndTells(0, 0, "sums");
        x.settle("f999g0199-s0199-o0199-g0199-");
        x.answersAndTells(0, 0, "sums");
        x.call("rest", 2);
        x.answersAndTells(4 * 9, 3 * 9, "sums");
        x.call("offer", 0);
        x.answersAndTells(5 * 9, 6 * 9, "sums");
        x.restTill(200);
        x.answersAndTells(6 * 9, (6 + 196 + 98 + 197) * 9, "sums");
        x.call("undo", 2);
        x.answersAndTells(4 * 9, 3 * 9, "sums");
    }

    private static void kept() {
        Checks.says(24, "The VALLEY is kept in a place (0 .. 2): its DAY.");
        Subject x = Subject.valley("f999g0153-");
        x.answers(0, "keep", 0);
        x.answers(1, "count", 5);
        x.restTill(200);
        x.answers(200, "keep", 2);
        x.answers(2, "count", 5);
        x.call("undo", 7);
        x.answers(7, "keep", 1);
        x.answers(3, "count", 5);
        x.answers(7, "keep", 0);
        x.answers(3, "count", 5);
        x.answers(7, "on", 0);
        x.answers(200, "on", 2);
        x.answers(7, "on", 1);
    }

    private static void notKept() {
        Checks.says(24, "BAD; STATE: no GODS.");
        Subject x = new Subject();
        for (int k : new int[] {-1, 3, MOST, LEAST}) x.refuses(Checks.BAD, "keep", k);
        for (int k = 0; k < 3; k++) x.refuses(Checks.STATE, "keep", k);
        x.settle("f999");
        x.refuses(Checks.STATE, "keep", 0);
        x.settle("f999g0153-");
        for (int k : new int[] {-1, 3, MOST, LEAST}) x.refuses(Checks.BAD, "keep", k);
    }

    private static void on() {
        Checks.says(25, "The VALLEY is as it was kept in a place (PATIENCES, STORES, all DAYS, too): its DAY.");
        Subject x = Subject.valley("f999o0153-v0153-j0153B");
        x.call("keep", 1);
        x.call("offer", 4);
        x.call("patience", 0, 4);
        x.call("store", 2, 55);
        x.call("rest", 2);
        x.call("keep", 2);
        x.restTill(200);
        x.call("patience", 0, 6);
        x.call("store", 2, 0);
        x.call("keep", 0);
        x.answers(3, "on", 2);
        x.answers(3, "count", 1);
        x.tells(4, "god", 0, 2);
        x.stores(9, 8, 55);
        x.hungers(3, 1, 5);
        x.answers(2, "mark", 2, 2);
        x.answers(4, "offered", 0);
        x.tells(5, "sent", 1, 0);
        x.tells(-3, "sent", 1, 2);
        x.answersAndTells(5 + 5 + 5 + 5 + 5, 3 * 3, "sums");
        x.finds(Checks.BEYOND, "offered", 3);
        x.answers(0, "on", 1);
        x.tells(1, "god", 0, 2);
        x.stores(9, 9, 9);
        x.hungers(0, 0, 0);
        x.answers(0, "mark", 1, 5);
        x.refuses(Checks.NONE, "mark", 2, 2);
        x.answers(200, "on", 0);
        x.refuses(Checks.FULL, "offer", 12);
        x.answers(1, "count", 2);
        x.stores(9, 8, 0);
        x.answers(200, "undo", 0);
        x.stores(9, 9, 9);
        x.tells(6, "god", 0, 2);
        x.answers(200, "on", 0);
        x.answers(3, "on", 2);
    }

    private static void onToOtherDays() {
        Checks.says(25, "(PATIENCES, STORES, all DAYS, too)");
        Subject x = Subject.valley("f999g0153-");
        x.call("offer", 0);
        x.call("rest", 3);
        x.call("keep", 0);
        x.restTill(199);
        x.call("offer", 1);
        x.call("keep", 2);
        x.call("undo", 0);
        x.call("offer", 2);
        x.call("offer", 12);
        x.call("offer", 12);
        x.call("keep", 1);
        x.answers(4, "on", 0);
        int[] numbers = {0, 12, 12, 12};
        int[] sent = {5, 5, -3, -3};
        for (int day = 0; day < 4; day++) {
            x.answers(numbers[day], "offered", day);
            x.tells(sent[day], "sent", day, 0);
        }
        x.answers(3, "undo", 1);
        x.hungers(0);
        x.stores(8, 9, 9);
        x.answers(200, "on", 2);
        x.answers(1, "offered", 199);
        x.tells(-3, "sent", 198, 0);
        x.answers(1, "undo", 199);
        x.stores(8, 9, 9);
        x.answers(198, "undo", 1);
        x.answers(0, "offered", 0);
        x.answers(3, "on", 1);
        x.answers(2, "offered", 0);
        x.answers(200, "on", 2);
        x.answers(0, "offered", 0);
        x.answers(3, "on", 1);
        x.answers(3, "undo", 0);
        x.stores(9, 9, 9);
    }

    private static void notOn() {
        Checks.says(25, "BAD; NOTHING.");
        Subject x = new Subject();
        for (int k : new int[] {-1, 3, MOST, LEAST}) x.refuses(Checks.BAD, "on", k);
        for (int k = 0; k < 3; k++) x.finds(Checks.NOTHING, "on", k);
        x.settle("f999g0153-");
        x.call("keep", 1);
        x.finds(Checks.NOTHING, "on", 0);
        x.finds(Checks.NOTHING, "on", 2);
        for (int k : new int[] {-1, 3, MOST, LEAST}) x.refuses(Checks.BAD, "on", k);
        x.settle("f999g0153-");
        x.finds(Checks.NOTHING, "on", 1);
    }
}
