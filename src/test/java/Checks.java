/** What the tests share: checks that count, and short ways to make valleys and rows. */
final class Checks {
    static final int BAD = -1, FULL = -2, FINDING = -3, STATE = -4, NONE = -9;
    static final int NOTHING = 1, BEYOND = 2, UNLIKE = 3, NOUGHT = 4, SIZE = 5;

    private static int made = 0;
    private static int wrong = 0;
    private static int promise = 0;
    private static String words = "";

    private Checks() {
    }

    static void due(int promise, String call, long got, long want) {
        made++;
        if (got == want) return;
        wrong++;
        System.out.println("promise " + promise + ": " + call + " answered " + got + ", due is " + want);
    }

    /** What the checks from here on hold the program to: words of the document. What stands ahead of promise 1 is 0. */
    static void says(int ofPromise, String ofDocument) {
        promise = ofPromise;
        words = ofDocument;
    }

    static void due(String call, long got, long want) {
        due(promise, "\"" + words + "\": " + call, got, want);
    }

    /** A call that answers 1 and tells by asked(). */
    static void told(int promise, OfferTurn x, String call, long answer, long want) {
        due(promise, call, answer, 1);
        due(promise, call + ", asked()", x.asked(), want);
    }

    /** A call that is refused by a FINDING. */
    static void finds(int promise, OfferTurn x, String call, long answer, int finding) {
        due(promise, call, answer, FINDING);
        due(promise, call + ", finding()", x.finding(), finding);
    }

    static void end() {
        System.out.println(made + " checks, " + wrong + " wrong");
        if (wrong != 0) System.exit(1);
    }

    static void write(OfferTurn x, int t, String signs) {
        x.text(t, signs.length());
        for (int i = 0; i < signs.length(); i++) x.put(t, i, signs.charAt(i));
    }

    static OfferTurn valley(String signs) {
        OfferTurn x = new OfferTurn();
        settle(x, signs);
        return x;
    }

    static int settle(OfferTurn x, String signs) {
        write(x, 3, signs);
        int answer = x.valley(3);
        x.text(3, 0);
        return answer;
    }

    static void fill(OfferTurn x, int r, int... values) {
        x.row(r, values.length);
        for (int i = 0; i < values.length; i++) x.lay(r, i, values[i]);
    }

    static int look(OfferTurn x, int r, int i) {
        int answer = x.at(r, i);
        return answer == 1 ? x.asked() : answer;
    }

    static int ask(OfferTurn x, int g, int what) {
        int answer = x.god(g, what);
        return answer == 1 ? x.asked() : answer;
    }

    static int hunger(OfferTurn x, int g) {
        return ask(x, g, 6);
    }

    static int spend(OfferTurn x, int number) {
        int answer = x.offer(number);
        return answer == 1 ? x.asked() : answer;
    }

    static void plan(int promise, OfferTurn x, int r, int... want) {
        for (int i = 0; i < want.length; i++) due(promise, "place " + i + " of the plan", look(x, r, i), want[i]);
        due(promise, "behind the plan", x.at(r, want.length), FINDING);
    }
}
