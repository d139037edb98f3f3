/** Promises 40 to 46: what is told; and that what is refused changes nothing. */
public final class TellsTest {
    public static void main(String[] args) {
        askedStays();
        askedIsTold();
        fractionsStay();
        counts();
        findings();
        refusedChangesNothing();
        digests();
        Checks.end();
    }

    private static void askedStays() {
        OfferTurn x = Checks.valley("f999j0153-o1142At2133Bv0124C");
        x.row(0, 1);
        x.lay(0, 0, 4711);
        x.at(0, 0);
        x.lay(0, 0, 12);
        x.text(0, 4);
        x.keep(0);
        x.at(0, 0);
        int[] answers = {
            x.row(1, 1), x.copy(0, 0, 1, 0, 1), x.tear(1), x.row(1, 1), x.text(1, 2), x.put(1, 0, 5), x.fault(0),
            x.mark(0, 2), x.mark(2, 1), x.store(0, 9), x.stores(1), x.patience(0, 2), x.may(0), x.undo(0), x.keep(1),
            x.on(1), x.safe(1, 2), x.share(1), x.food(1), x.fits(0, 0, 1), x.count(3), x.finding(), x.findings(1),
            x.mean(9), x.at(0, 60), x.god(9, 0), x.offer(99), x.rest(99), x.best(9, 9), x.price(9, 9), x.year(0, 0)};
        x.digest();
        Checks.due(40, answers.length + " calls that do not tell", x.asked(), 12);
        x.rest(1);
        x.offered(0);
        Checks.due(40, "offered() does not tell", x.asked(), 12);
        x.at(0, 0);
        Checks.due(40, "undo() does not tell", x.undo(0) + x.asked(), 13);
        Checks.settle(x, "f000g0153-");
        Checks.due(40, "valley() does not tell", x.asked(), 12);
        Checks.due(40, "NONE does not tell", x.safe(3, 0) + x.asked(), -9 + 12);
    }

    private static void askedIsTold() {
        OfferTurn x = Checks.valley("f100g0253-");
        Checks.fill(x, 0, 7, 9);
        Checks.told(40, x, "lay()", x.lay(0, 1, 5), 9);
        Checks.told(40, x, "at()", x.at(0, 0), 7);
        Checks.told(40, x, "mean()", x.mean(0), 6);
        Checks.told(40, x, "god()", x.god(0, 2), 2);
        Checks.told(40, x, "offer()", x.offer(12), 5);
        Checks.told(40, x, "rest()", x.rest(2), 2);
        Checks.told(40, x, "sent()", x.sent(2, 0), -3);
        Checks.due(40, "sums()", x.sums() * 100 + x.asked(), 1003);
        Checks.told(40, x, "best()", x.best(3, 1), 15);
        Checks.due(40, "tries()", x.tries(1) * 100 + x.asked(), 315);
        Checks.due(40, "harm()", x.harm(1) * 100 + x.asked(), 5);
        Checks.due(40, "starve()", x.starve(1) * 100 + x.asked(), 8);
        Checks.told(40, x, "price()", x.price(0, 2), 10);
        Checks.told(40, x, "altar()", x.altar(0, 1, 4, 1), 5);
        Checks.told(40, x, "turns()", x.turns(1, 3), 15);
        Checks.fill(x, 2, 12);
        Checks.fill(x, 3, -3);
        Checks.due(40, "whose()", x.whose(2, 3) * 100 + x.asked(), 102);
        Checks.due(40, "ask()", x.ask(0) * 100 + x.asked(), 1203);
        Checks.told(40, x, "year()", x.year(1, 1), -3);
    }

    private static void fractionsStay() {
        OfferTurn x = Checks.valley("f100g0153-");
        x.share(2);
        x.best(2, 0);
        x.harm(1);
        x.share(9);
        x.turns(9, 9);
        x.year(0, 0);
        Checks.due(41, "upper() stays", x.upper(), 2);
        Checks.due(42, "lower() stays", x.lower(), 3);
        x.year(1, 3);
        Checks.due(42, "lower() by year()", x.lower(), 1);
        x.share(2);
        x.turns(1, 0);
        Checks.due(41, "upper() by turns()", x.upper(), 12);
        Checks.due(42, "lower() by turns()", x.lower(), 1);
    }

    private static void counts() {
        OfferTurn x = Checks.valley("f999j0153-o1142-s2133-v0124-");
        int[] want = {4, 0, 0, 2, 2, 0, 0, 1};
        for (int what = 0; what <= 7; what++) Checks.due(43, "count(" + what + ")", x.count(what), want[what]);
        x.row(1, 0);
        x.row(4, 3);
        x.text(0, 0);
        x.rest(4);
        x.keep(0);
        x.keep(2);
        x.keep(2);
        int[] later = {4, 4, 1, 2, 2, 2, 2, 2};
        for (int what = 0; what <= 7; what++) Checks.due(43, "count(" + what + ")", x.count(what), later[what]);
        Checks.due(43, "count(8)", x.count(8), Checks.BAD);
        Checks.due(43, "count(-1)", x.count(-1), Checks.BAD);
        Checks.settle(x, "f000g0153-t1142A");
        Checks.due(43, "no JEALOUS ones", x.count(3), 0);
        Checks.due(43, "no SLEEPERS", x.count(4), 0);
    }

    private static void findings() {
        OfferTurn x = Checks.valley("f000g0153-");
        Checks.due(44, "finding()", x.finding(), 0);
        x.at(0, 0);
        Checks.due(44, "NOTHING", x.finding(), 1);
        x.row(0, 0);
        x.at(0, 0);
        Checks.due(44, "BEYOND", x.finding(), 2);
        x.mark(0, 1);
        Checks.due(44, "UNLIKE", x.finding(), 3);
        x.mean(0);
        Checks.due(44, "NOUGHT", x.finding(), 4);
        x.row(0, -1);
        Checks.due(44, "SIZE", x.finding(), 5);
        x.at(0, 1);
        x.at(9, 9);
        x.offer(0);
        Checks.due(44, "neither BAD nor STATE changes it", x.finding(), 2);
        int[] want = {1, 2, 1, 1, 1};
        for (int f = 1; f <= 5; f++) Checks.due(45, "findings(" + f + ")", x.findings(f), want[f - 1]);
        Checks.due(45, "findings(0)", x.findings(0), Checks.BAD);
        Checks.due(45, "findings(6)", x.findings(6), Checks.BAD);
        Checks.due(45, "findings(-1)", x.findings(-1), Checks.BAD);
    }

    private static void refusedChangesNothing() {
        OfferTurn x = Checks.valley("f012o0153-v1142At2133B");
        Checks.fill(x, 0, 1, 2, 3);
        x.keep(1);
        x.rest(3);
        x.share(1);
        long before = x.digest();
        int asked = x.asked();
        int[] odd = {-1, 77, Integer.MIN_VALUE, Integer.MAX_VALUE};
        for (int a : odd) {
            int[] answers = {
                x.row(a, 1), x.row(0, a), x.lay(0, a, 5), x.lay(a, 0, 5), x.at(0, a), x.tear(a), x.copy(0, a, 0, 0, 1),
                x.copy(0, 0, a, 0, 1), x.copy(0, 0, 0, a, 1), x.copy(0, 0, 0, 0, a), x.mean(a), x.text(0, a),
                x.text(a, 0), x.put(3, a, 0), x.fault(a), x.valley(a), x.god(a, 0), x.god(0, a), x.mark(a, 4),
                x.mark(0, a), x.store(a, 0), x.store(0, a == 77 ? 100 : a), x.stores(a), x.patience(a, 1),
                x.patience(0, a), x.offer(a), x.may(a), x.rest(a), x.sent(a, 0), x.sent(0, a), x.offered(a), x.undo(a),
                x.keep(a), x.on(a), x.on(0), x.best(a, 0), x.best(1, a), x.tries(a), x.safe(a, 0), x.safe(1, a),
                x.share(a), x.food(a), x.harm(a), x.starve(a), x.price(a, 1), x.altar(1, a, 1, 1), x.altar(1, 1, a, 1),
                x.altar(1, 1, 1, a), x.turns(a, 1), x.turns(1, a), x.fits(a, 0, 0), x.fits(1, a, 0), x.fits(1, 0, a),
                x.whose(a, 0), x.whose(0, a), x.ask(a), x.year(a == 77 ? 0 : a == odd[3] ? a : -5, 1), x.year(1, a == 77 ? 101 : a),
                x.count(a), x.findings(a)};
            for (int i = 0; i < answers.length; i++) {
                Checks.due(46, "call " + i + " by " + a + " is refused", answers[i] < 0 ? 1 : 0, 1);
            }
        }
        Checks.due(46, "digest() stays", x.digest() == before ? 1 : 0, 1);
        Checks.due(46, "asked() stays", x.asked(), asked);
    }

    private static void digests() {
        OfferTurn x = new OfferTurn();
        long none = 17;
        for (int i = 0; i < 8 + 3 + 2; i++) none = 31 * none;
        for (int i = 0; i < 3 + 6 + 4; i++) none = 31 * none - 1;
        Checks.due(46, "digest() of a new one", x.digest(), none);
        Checks.settle(x, "f987o0153-v1142At2133B");
        Checks.fill(x, 1, 5, -6);
        x.row(3, 0);
        x.text(0, 3);
        x.put(0, 1, 200);
        x.offer(3);
        x.keep(1);
        x.rest(5);
        Checks.due(46, "digest()", x.digest(), reckoned(x, new int[] {-1, 1, -1}, new int[][] {null, {5, -6}, null, {}, null, null},
            new int[][] {{32, -56, 32}, null, null, {}}));
        int asked = x.asked();
        x.digest();
        Checks.due(46, "asked() stays", x.asked(), asked);
    }

    private static long reckoned(OfferTurn x, int[] kept, int[][] rows, int[][] texts) {
        long h = 17;
        for (int what = 0; what <= 7; what++) h = 31 * h + x.count(what);
        for (int f = 0; f < 3; f++) h = 31 * h + x.stores(f);
        for (int g = 0; g < x.count(0); g++) {
            for (int what = 0; what <= 6; what++) {
                x.god(g, what);
                h = 31 * h + x.asked();
            }
            h = 31 * h + (g == 0 ? 0 : 1);
        }
        h = 31 * h + x.sums();
        h = 31 * h + x.asked();
        for (int day = 0; day < x.count(1); day++) h = 31 * h + x.offered(day);
        for (int day : kept) h = 31 * h + day;
        h = overRows(overRows(h, rows), texts);
        return h;
    }

    private static long overRows(long start, int[][] rows) {
        long h = start;
        for (int[] row : rows) {
            h = 31 * h + (row == null ? -1 : row.length);
            if (row == null) continue;
            for (int v : row) h = 31 * h + v;
        }
        return h;
    }
}
