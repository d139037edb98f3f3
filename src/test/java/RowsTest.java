/** Promises 1 to 16: rows, texts, valleys. */
public final class RowsTest {
    public static void main(String[] args) {
        newObject();
        rowsAreMade();
        placesAreLaidAndSeen();
        rowsAreTorn();
        rowsAreCopied();
        means();
        textsAreMade();
        bytesArePut();
        faults();
        faultsOfGods();
        valleys();
        valleysBeginAnew();
        nothingIsLeftOfAnEarlierValley();
        gods();
        marks();
        marksOfForeignAndForgotten();
        stores();
        patiences();
        Checks.end();
    }

    private static void newObject() {
        OfferTurn x = new OfferTurn();
        for (int what = 0; what <= 7; what++) Checks.due(1, "count(" + what + ")", x.count(what), 0);
        for (int f = 0; f < 3; f++) Checks.due(1, "stores(" + f + ")", x.stores(f), 0);
        Checks.due(1, "asked()", x.asked(), 0);
        Checks.due(1, "upper()", x.upper(), 0);
        Checks.due(1, "lower()", x.lower(), 1);
        Checks.due(1, "finding()", x.finding(), 0);
        for (int f = 1; f <= 5; f++) Checks.due(1, "findings(" + f + ")", x.findings(f), 0);
        for (int r = 0; r < 6; r++) Checks.due(1, "at a missing row", x.at(r, 0), Checks.FINDING);
        for (int t = 0; t < 4; t++) Checks.due(1, "fault of a missing text", x.fault(t), Checks.FINDING);
    }

    private static void rowsAreMade() {
        OfferTurn x = new OfferTurn();
        Checks.due(2, "row(0, 0)", x.row(0, 0), 0);
        Checks.due(2, "row(5, 60)", x.row(5, 60), 60);
        Checks.due(2, "count(6)", x.count(6), 2);
        Checks.due(2, "row(6, 1)", x.row(6, 1), Checks.BAD);
        Checks.due(2, "row(-1, 1)", x.row(-1, 1), Checks.BAD);
        Checks.due(2, "row(0, 61)", x.row(0, 61), Checks.BAD);
        Checks.due(2, "row(6, -1)", x.row(6, -1), Checks.BAD);
        Checks.due(2, "finding() behind BAD", x.finding(), 0);
        x.lay(5, 59, 7);
        Checks.finds(2, x, "row(5, -1)", x.row(5, -1), Checks.SIZE);
        Checks.due(2, "the row is as it was", Checks.look(x, 5, 59), 7);
        Checks.due(2, "row(5, 60) anew", x.row(5, 60), 60);
        Checks.due(2, "ints are 0", Checks.look(x, 5, 59), 0);
        x.row(5, 2);
        x.lay(5, 1, 3);
        x.row(5, 1);
        Checks.due(2, "a shorter row", x.at(5, 1), Checks.FINDING);
        x.row(5, 3);
        Checks.due(2, "nothing is left of the longer one", Checks.look(x, 5, 1), 0);
    }

    private static void placesAreLaidAndSeen() {
        OfferTurn x = new OfferTurn();
        Checks.due(3, "lay(6, 0, 1)", x.lay(6, 0, 1), Checks.BAD);
        Checks.due(3, "lay(-1, 0, 1)", x.lay(-1, 0, 1), Checks.BAD);
        Checks.due(4, "at(6, 0)", x.at(6, 0), Checks.BAD);
        Checks.due(4, "at(-1, 0)", x.at(-1, 0), Checks.BAD);
        Checks.finds(3, x, "lay of a missing row", x.lay(1, 0, 1), Checks.NOTHING);
        Checks.finds(4, x, "at of a missing row", x.at(1, 5), Checks.NOTHING);
        x.row(1, 2);
        Checks.finds(3, x, "lay(1, 2, 1)", x.lay(1, 2, 1), Checks.BEYOND);
        Checks.finds(3, x, "lay(1, -1, 1)", x.lay(1, -1, 1), Checks.BEYOND);
        Checks.finds(4, x, "at(1, 2)", x.at(1, 2), Checks.BEYOND);
        Checks.finds(4, x, "at(1, -1)", x.at(1, -1), Checks.BEYOND);
        Checks.told(3, x, "lay(1, 1, least)", x.lay(1, 1, Integer.MIN_VALUE), 0);
        Checks.told(3, x, "lay(1, 1, 8)", x.lay(1, 1, 8), Integer.MIN_VALUE);
        Checks.told(3, x, "lay(1, 0, 5)", x.lay(1, 0, 5), 0);
        Checks.told(4, x, "at(1, 1)", x.at(1, 1), 8);
        Checks.told(4, x, "at(1, 0)", x.at(1, 0), 5);
    }

    private static void rowsAreTorn() {
        OfferTurn x = new OfferTurn();
        Checks.due(5, "tear(6)", x.tear(6), Checks.BAD);
        Checks.due(5, "tear(-1)", x.tear(-1), Checks.BAD);
        Checks.finds(5, x, "tear of a missing row", x.tear(0), Checks.NOTHING);
        x.row(0, 0);
        Checks.due(5, "tear(0)", x.tear(0), 1);
        Checks.due(5, "count(6)", x.count(6), 0);
        Checks.due(5, "tear(0) once more", x.tear(0), Checks.FINDING);
        Checks.due(5, "how often NOTHING", x.findings(Checks.NOTHING), 2);
    }

    private static void rowsAreCopied() {
        OfferTurn x = new OfferTurn();
        Checks.fill(x, 0, 1, 2, 3, 4);
        x.row(1, 2);
        Checks.due(6, "copy(0, 2, 1, 0, 2)", x.copy(0, 2, 1, 0, 2), 1);
        Checks.due(6, "first place", Checks.look(x, 1, 0), 3);
        Checks.due(6, "second place", Checks.look(x, 1, 1), 4);
        Checks.due(6, "forward onto itself", x.copy(0, 0, 0, 1, 3), 1);
        int[] want = {1, 1, 2, 3};
        for (int i = 0; i < 4; i++) Checks.due(6, "as if taken ahead", Checks.look(x, 0, i), want[i]);
        Checks.due(6, "backward onto itself", x.copy(0, 1, 0, 0, 3), 1);
        int[] back = {1, 2, 3, 3};
        for (int i = 0; i < 4; i++) Checks.due(6, "as if taken ahead, back", Checks.look(x, 0, i), back[i]);
        Checks.due(6, "none, at the ends", x.copy(0, 4, 1, 2, 0), 1);
        Checks.due(6, "BAD first", x.copy(6, 0, 1, 0, -1), Checks.BAD);
        Checks.due(6, "BAD of the other", x.copy(0, 0, -1, 0, -1), Checks.BAD);
        Checks.finds(6, x, "SIZE ahead of NOTHING", x.copy(2, 0, 1, 0, -1), Checks.SIZE);
        Checks.finds(6, x, "NOTHING ahead of BEYOND", x.copy(2, -1, 1, 0, 1), Checks.NOTHING);
        Checks.finds(6, x, "NOTHING to come to", x.copy(0, 0, 2, 0, 0), Checks.NOTHING);
        Checks.finds(6, x, "none from behind the end", x.copy(0, 5, 1, 0, 0), Checks.BEYOND);
        Checks.finds(6, x, "none to behind the end", x.copy(0, 0, 1, 3, 0), Checks.BEYOND);
        Checks.finds(6, x, "none from ahead", x.copy(0, -1, 1, 0, 0), Checks.BEYOND);
        Checks.finds(6, x, "none to ahead", x.copy(0, 0, 1, -1, 0), Checks.BEYOND);
        Checks.finds(6, x, "too many there", x.copy(1, 0, 0, 0, 3), Checks.BEYOND);
        Checks.finds(6, x, "too many to there", x.copy(0, 0, 1, 1, 2), Checks.BEYOND);
        int most = Integer.MAX_VALUE;
        Checks.finds(6, x, "far too many", x.copy(0, 1, 1, 1, most), Checks.BEYOND);
        Checks.finds(6, x, "far too far", x.copy(0, most, 1, most, most), Checks.BEYOND);
    }

    private static void means() {
        OfferTurn x = new OfferTurn();
        Checks.due(7, "mean(6)", x.mean(6), Checks.BAD);
        Checks.due(7, "mean(-1)", x.mean(-1), Checks.BAD);
        Checks.finds(7, x, "mean of a missing row", x.mean(0), Checks.NOTHING);
        x.row(0, 0);
        Checks.finds(7, x, "mean of none", x.mean(0), Checks.NOUGHT);
        Checks.fill(x, 0, 8);
        Checks.told(7, x, "mean of one", x.mean(0), 8);
        Checks.fill(x, 0, 3, 4);
        Checks.told(7, x, "mean of 3, 4", x.mean(0), 3);
        Checks.fill(x, 0, -3, -4);
        Checks.told(7, x, "mean of -3, -4", x.mean(0), -3);
        Checks.fill(x, 0, Integer.MAX_VALUE, Integer.MAX_VALUE, Integer.MAX_VALUE);
        Checks.told(7, x, "mean of the most", x.mean(0), Integer.MAX_VALUE);
    }

    private static void textsAreMade() {
        OfferTurn x = new OfferTurn();
        Checks.due(8, "text(3, 60)", x.text(3, 60), 60);
        Checks.due(8, "text(0, 0)", x.text(0, 0), 0);
        Checks.due(8, "count(7)", x.count(7), 2);
        Checks.due(8, "text(4, 1)", x.text(4, 1), Checks.BAD);
        Checks.due(8, "text(-1, 1)", x.text(-1, 1), Checks.BAD);
        Checks.due(8, "text(0, 61)", x.text(0, 61), Checks.BAD);
        Checks.due(8, "text(4, -1)", x.text(4, -1), Checks.BAD);
        Checks.finds(8, x, "text(0, -1)", x.text(0, -1), Checks.SIZE);
        Checks.due(8, "blanks", x.put(3, 59, 7), 1032);
        x.text(3, 60);
        Checks.due(8, "blanks anew", x.put(3, 59, 7), 1032);
    }

    private static void bytesArePut() {
        OfferTurn x = new OfferTurn();
        Checks.due(9, "put(4, 0, 1)", x.put(4, 0, 1), Checks.BAD);
        Checks.due(9, "put(-1, 0, 1)", x.put(-1, 0, 1), Checks.BAD);
        Checks.finds(9, x, "put in a missing text", x.put(0, 0, 1), Checks.NOTHING);
        x.text(0, 2);
        Checks.finds(9, x, "put(0, 2, 1)", x.put(0, 2, 1), Checks.BEYOND);
        Checks.finds(9, x, "put(0, -1, 1)", x.put(0, -1, 1), Checks.BEYOND);
        Checks.due(9, "put(0, 1, 200)", x.put(0, 1, 200), 1032);
        Checks.due(9, "200 is cut to -56", x.put(0, 1, 128), 944);
        Checks.due(9, "128 is cut to -128", x.put(0, 1, 256 + 102), 872);
        Checks.due(9, "358 is cut to 102", x.put(0, 1, 0), 1102);
        Checks.due(9, "asked() stays", x.asked(), 0);
    }

    private static void fault(String signs, int want) {
        OfferTurn x = new OfferTurn();
        Checks.write(x, 0, signs);
        Checks.due(10, "fault of '" + signs + "'", x.fault(0), want);
        Checks.due(11, "valley of '" + signs + "'", x.valley(0) < 0 ? 1 : 0, want == Checks.NONE ? 0 : 1);
    }

    private static void faults() {
        OfferTurn x = new OfferTurn();
        Checks.due(10, "fault(4)", x.fault(4), Checks.BAD);
        Checks.due(10, "fault(-1)", x.fault(-1), Checks.BAD);
        Checks.finds(10, x, "fault of a missing text", x.fault(0), Checks.NOTHING);
        fault("", 0);
        fault("   ", 3);
        fault("f012", Checks.NONE);
        fault("  f999  ", Checks.NONE);
        fault("f", 1);
        fault("f12", 3);
        fault("f1 2", 2);
        fault("f1/2", 2);
        fault("f1:2", 2);
        fault("F123", 0);
        fault("  g0111-", 2);
        fault("f123f", 4);
        fault("f123 4", 5);
        Checks.write(x, 0, "f0123");
        x.put(0, 4, 256 + 32);
        Checks.due(10, "a blank by its byte", x.fault(0), Checks.NONE);
        x.put(0, 4, 160);
        Checks.due(10, "a byte below 0", x.fault(0), 4);
    }

    private static void faultsOfGods() {
        String four = "f123g0155-g0155-g0155-g0155-";
        for (String letter : new String[] {"g", "j", "s", "o", "v"}) {
            fault("f123" + letter + "0100-", Checks.NONE);
            fault("f123" + letter + "2699-" + letter + "2699A", Checks.NONE);
        }
        fault("f123g0100-t0100A", Checks.NONE);
        fault("f123g0100-t0100-", 15);
        fault("f123t0100-", 9);
        fault("f123t0100A", 9);
        fault("f123t0100", 9);
        fault("f123g", 5);
        fault("f123g3100-", 5);
        fault("f123g/100-", 5);
        fault("f123g00", 6);
        fault("f123g07", 6);
        fault("f123g01x", 7);
        fault("f123g010x", 8);
        fault("f123g010 -", 8);
        fault("f123g0100 -", 9);
        fault("f123g0100", 9);
        fault("f123g0100A", 9);
        fault("f123g0100a", 9);
        fault("f123g0100-g0100B", 15);
        fault("f123g0100-g0100A", Checks.NONE);
        fault("f123g0100-g0100-g0100-g0100C", Checks.NONE);
        fault("f123g0100-g0100-g0100-g0100D", 27);
        fault(four, Checks.NONE);
        fault(four + "   ", Checks.NONE);
        fault(four + "  g0100-", 30);
        fault(four + "x", 28);
        fault("f123h0100-", 4);
        fault("f123h", 4);
        fault("f123 f", 5);
        fault("f123 G0100-", 5);
    }

    private static void valleys() {
        OfferTurn x = new OfferTurn();
        Checks.due(11, "valley(4)", x.valley(4), Checks.BAD);
        Checks.due(11, "valley(-1)", x.valley(-1), Checks.BAD);
        Checks.finds(11, x, "valley of a missing text", x.valley(2), Checks.NOTHING);
        Checks.due(11, "valley of four", Checks.settle(x, "f123g0155-t1266Aj2377B o0488C"), 4);
        Checks.due(11, "count(0)", x.count(0), 4);
        Checks.due(11, "stores(2)", x.stores(2), 3);
        Checks.due(11, "a FAULT", Checks.settle(x, "f987g0155"), Checks.STATE);
        Checks.due(11, "it stays", x.count(0), 4);
        Checks.due(11, "STORES stay", x.stores(0), 1);
        Checks.due(11, "KIND stays", Checks.ask(x, 3, 0), 4);
        Checks.due(11, "finding() stays", x.finding(), Checks.NOTHING);
    }

    private static void valleysBeginAnew() {
        OfferTurn x = Checks.valley("f987o0155-");
        x.keep(1);
        x.rest(5);
        x.patience(0, 5);
        Checks.due(11, "it went", x.count(2), 1);
        Checks.due(11, "the same valley", Checks.settle(x, "f123o0155-"), 1);
        Checks.due(11, "DAY 0", x.count(1), 0);
        Checks.due(11, "nobody is GONE", x.count(2), 0);
        Checks.due(11, "nothing is kept", x.count(5), 0);
        Checks.due(11, "on(1)", x.on(1), Checks.FINDING);
        Checks.due(11, "HUNGER 0", Checks.hunger(x, 0), 0);
        Checks.due(11, "PATIENCE by the TEXT", Checks.ask(x, 0, 2), 1);
        Checks.due(11, "nothing was sent", x.sums(), 0);
        x.keep(0);
        Checks.due(11, "a FAULT", Checks.settle(x, "f12"), Checks.STATE);
        Checks.due(11, "what is kept stays", x.count(5), 1);
        Checks.due(11, "no GODS", Checks.settle(x, "f456"), 0);
        Checks.due(11, "STORES without GODS", x.stores(2), 6);
        Checks.due(11, "count(0)", x.count(0), 0);
        Checks.due(11, "nothing is kept then", x.count(5), 0);
    }

    private static void nothingIsLeftOfAnEarlierValley() {
        OfferTurn x = Checks.valley("f999v0155-j0155A");
        x.offer(0);
        Checks.settle(x, "f999v0155-g0155-");
        Checks.due(11, "never fed", x.mark(0, 5), 0);
        Checks.due(11, "nobody GONE or JEALOUS", x.count(2) + x.count(3), 0);
        x.offer(0);
        Checks.due(11, "the other one minds nobody now", Checks.hunger(x, 1), 1);
        Checks.settle(x, "f999g0155-g0155-");
        x.rest(1);
        Checks.due(11, "nobody sleeps now", x.may(0) * 10 + x.may(3), 11);
        Checks.settle(x, "f999s0155-v0155-");
        x.rest(1);
        Checks.due(11, "both sleep", x.may(0) + x.may(3), -18);
    }

    private static void gods() {
        OfferTurn x = Checks.valley("f999g0123-t1234Aj2345Av0456-");
        int[][] want = {{0, 0, 1, 2, 3, -9, 0}, {1, 1, 2, 3, 4, 0, 0}, {2, 2, 3, 4, 5, 0, 0}, {5, 0, 4, 5, 6, -9, 0}};
        for (int g = 0; g < 4; g++) {
            for (int what = 0; what <= 6; what++) {
                Checks.told(12, x, "god(" + g + ", " + what + ")", x.god(g, what), want[g][what]);
            }
        }
        Checks.due(12, "god(4, 0)", x.god(4, 0), Checks.BAD);
        Checks.due(12, "god(-1, 0)", x.god(-1, 0), Checks.BAD);
        Checks.due(12, "god(0, 7)", x.god(0, 7), Checks.BAD);
        Checks.due(12, "god(0, -1)", x.god(0, -1), Checks.BAD);
        x.rest(2);
        Checks.told(12, x, "HUNGER", x.god(0, 6), 2);
        Checks.told(12, x, "HUNGER of a sleeper", x.god(3, 6), 1);
        OfferTurn gone = Checks.valley("f999o0155-");
        gone.rest(3);
        Checks.told(12, gone, "HUNGER of one GONE", gone.god(0, 6), Checks.NONE);
        Checks.told(12, gone, "its KIND", gone.god(0, 0), 4);
    }

    private static void marks() {
        OfferTurn x = Checks.valley("f999g0555-t1555Aj2555Bs0555-");
        Checks.due(13, "a TWIN's OTHER", x.mark(1, 1), 0);
        Checks.due(13, "nobody was fed yet", x.mark(2, 2), Checks.NONE);
        Checks.due(13, "awake on DAY 0", x.mark(3, 3), 0);
        Checks.finds(13, x, "a GOD is no TWIN", x.mark(0, 1), Checks.UNLIKE);
        Checks.finds(13, x, "a JEALOUS one is not FOREIGN", x.mark(2, 4), Checks.UNLIKE);
        Checks.finds(13, x, "a SLEEPER is not FORGOTTEN", x.mark(3, 5), Checks.UNLIKE);
        Checks.finds(13, x, "a TWIN is no SLEEPER", x.mark(1, 3), Checks.UNLIKE);
        Checks.due(13, "KIND 0", x.mark(0, 0), Checks.BAD);
        Checks.due(13, "KIND 6", x.mark(0, 6), Checks.BAD);
        Checks.due(13, "mark(4, 1)", x.mark(4, 1), Checks.BAD);
        Checks.due(13, "mark(-1, 1)", x.mark(-1, 1), Checks.BAD);
        x.offer(0);
        Checks.due(13, "fed with another on the latest DAY", x.mark(2, 2), 0);
        Checks.due(13, "asleep on DAY 1", x.mark(3, 3), 1);
        x.rest(2);
        Checks.due(13, "two DAYS ago", x.mark(2, 2), 2);
        x.undo(0);
        Checks.due(13, "undone", x.mark(2, 2), Checks.NONE);
        x.rest(1);
        x.offer(0);
        x.rest(3);
        x.undo(4);
        Checks.due(13, "fed on DAY 1, three DAYS from then", x.mark(2, 2), 2);
        OfferTurn alone = Checks.valley("f999g0555-j0555-");
        alone.offer(0);
        Checks.due(13, "one who can ABIDE all", alone.mark(1, 2), Checks.NONE);
    }

    private static void marksOfForeignAndForgotten() {
        OfferTurn x = Checks.valley("f999o0255-v1155Aj0955-");
        Checks.due(13, "a wrong PATIENCE", x.count(0), 0);
        x = Checks.valley("f999o0255-v1155A");
        Checks.due(13, "short of going", x.mark(0, 4), 4);
        Checks.due(13, "a FOREIGN one is JEALOUS", x.mark(0, 2), Checks.NONE);
        Checks.due(13, "a FORGOTTEN one is a SLEEPER", x.mark(1, 3), 0);
        Checks.due(13, "never fed", x.mark(1, 5), 0);
        Checks.finds(13, x, "FOREIGN is not FORGOTTEN", x.mark(0, 5), Checks.UNLIKE);
        Checks.finds(13, x, "FORGOTTEN is not JEALOUS", x.mark(1, 2), Checks.UNLIKE);
        x.offer(3);
        Checks.due(13, "fed with a FOOD that is not its own", x.mark(1, 5), 1);
        x.undo(0);
        Checks.due(13, "undone", x.mark(1, 5), 0);
        x.rest(3);
        Checks.due(13, "1 short", x.mark(0, 4), 1);
        x.patience(0, 1);
        Checks.due(13, "0 at least", x.mark(0, 4), 0);
        x.undo(2);
        x.patience(0, 1);
        x.rest(1);
        Checks.due(13, "GONE", x.mark(0, 4), Checks.NONE);
        Checks.due(13, "GONE, but JEALOUS", x.mark(0, 2), Checks.NONE);
        OfferTurn late = Checks.valley("f999o0155-");
        late.patience(0, 6);
        late.rest(5);
        late.patience(0, 1);
        Checks.due(13, "HUNGER far above", late.mark(0, 4), 0);
        Checks.due(13, "but not GONE yet", late.count(2), 0);
    }

    private static void stores() {
        OfferTurn x = new OfferTurn();
        Checks.due(14, "no GODS", x.store(0, 1), Checks.STATE);
        Checks.due(14, "BAD ahead of STATE", x.store(3, 1), Checks.BAD);
        Checks.settle(x, "f123g0155-");
        Checks.due(14, "store(0, 99)", x.store(0, 99), 1);
        Checks.due(14, "store(0, 0)", x.store(0, 0), 99);
        Checks.due(14, "store(0, 100)", x.store(0, 100), Checks.BAD);
        Checks.due(14, "store(0, -1)", x.store(0, -1), Checks.BAD);
        Checks.due(14, "store(-1, 0)", x.store(-1, 0), Checks.BAD);
        Checks.due(15, "stores(0)", x.stores(0), 0);
        Checks.due(15, "stores(1)", x.stores(1), 2);
        Checks.due(15, "stores(2)", x.stores(2), 3);
        Checks.due(15, "stores(3)", x.stores(3), Checks.BAD);
        Checks.due(15, "stores(-1)", x.stores(-1), Checks.BAD);
        Checks.due(14, "may with no FOOD", x.may(0), Checks.NONE);
        x.store(0, 1);
        Checks.due(14, "may with FOOD", x.may(0), 1);
        x.offer(1);
        Checks.due(15, "one is taken", x.stores(1), 1);
    }

    private static void patiences() {
        OfferTurn x = Checks.valley("f123g0155-");
        Checks.due(16, "patience(0, 6)", x.patience(0, 6), 1);
        Checks.due(16, "patience(0, 2)", x.patience(0, 2), 6);
        Checks.due(16, "patience(0, 7)", x.patience(0, 7), Checks.BAD);
        Checks.due(16, "patience(0, 0)", x.patience(0, 0), Checks.BAD);
        Checks.due(16, "patience(1, 1)", x.patience(1, 1), Checks.BAD);
        Checks.due(16, "patience(-1, 1)", x.patience(-1, 1), Checks.BAD);
        Checks.due(16, "god(0, 2)", Checks.ask(x, 0, 2), 2);
        x.rest(2);
        Checks.due(16, "GOOD, as HUNGER is not above", x.asked(), 10);
        x.patience(0, 1);
        x.undo(1);
        x.rest(1);
        Checks.due(16, "HARM, as it is above", x.asked(), -5);
    }
}
