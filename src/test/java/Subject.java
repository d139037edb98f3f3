import java.lang.reflect.Method;
import java.lang.reflect.Modifier;
import java.util.ArrayList;
import java.util.Arrays;
import java.util.List;
import java.util.Map;
import java.util.TreeMap;

/**
 * An OfferTurn that is called by the names of its calls, no more often than the document speaks of. What a refused call
 * leaves behind is looked at each time.
 */
final class Subject {
    private static final int MOST_CALLS = 512;
    private static final Map<String, Method> FACE = face();
    /** What tells the state; behind the latest FINDING comes how often each was answered. */
    private static final List<String> PLAIN = List.of("digest", "asked", "upper", "lower", "finding");
    private static final int LATEST = 4;

    private final OfferTurn x = new OfferTurn();
    private int calls = 0;
    /** All that is told, when no call but telling ones came since; else null. */
    private List<Long> known = null;

    private static Map<String, Method> face() {
        Map<String, Method> face = new TreeMap<>();
        for (Method m : OfferTurn.class.getDeclaredMethods()) if (Modifier.isPublic(m.getModifiers())) face.put(m.getName(), m);
        return face;
    }

    static Subject valley(String signs) {
        Subject subject = new Subject();
        subject.settle(signs);
        return subject;
    }

    /** A VALLEY by TEXT 3, which is left without a byte. */
    void settle(String signs) {
        write(3, signs);
        call("valley", 3);
        call("text", 3, 0);
    }

    void write(int t, String signs) {
        call("text", t, signs.length());
        for (int i = 0; i < signs.length(); i++) if (signs.charAt(i) != ' ') call("put", t, i, signs.charAt(i));
    }

    void fill(int r, int... values) {
        call("row", r, values.length);
        for (int i = 0; i < values.length; i++) call("lay", r, i, values[i]);
    }

    void fillAlike(int r, int size, int value) {
        int[] values = new int[size];
        Arrays.fill(values, value);
        fill(r, values);
    }

    /** DAYS without an OFFERING, until the DAY is as told. */
    void restTill(int day) {
        for (long left = day - call("count", 1); left > 0; left -= 30) call("rest", (int) Math.min(30, left));
    }

    long call(String name, int... values) {
        known = null;
        calls++;
        if (calls > MOST_CALLS) throw new IllegalStateException("more than " + MOST_CALLS + " calls of one object");
        Object[] boxed = new Object[values.length];
        for (int i = 0; i < values.length; i++) boxed[i] = values[i];
        try {
            return ((Number) FACE.get(name).invoke(x, boxed)).longValue();
        } catch (ReflectiveOperationException e) {
            throw new IllegalStateException(line(name, values), e);
        }
    }

    private static String line(String name, int... values) {
        StringBuilder line = new StringBuilder(name).append('(');
        for (int i = 0; i < values.length; i++) line.append(i == 0 ? "" : ", ").append(values[i]);
        return line.append(')').toString();
    }

    void answers(long want, String name, int... values) {
        Checks.due(line(name, values), call(name, values), want);
    }

    /** A call that answers 1 and tells by asked(). */
    void tells(long want, String name, int... values) {
        answersAndTells(1, want, name, values);
    }

    void answersAndTells(long answer, long told, String name, int... values) {
        answers(answer, name, values);
        Checks.due(line(name, values) + ", asked()", call("asked"), told);
    }

    void fraction(long upper, long lower) {
        answers(upper, "upper");
        answers(lower, "lower");
    }

    void hungers(int... want) {
        for (int g = 0; g < want.length; g++) tells(want[g], "god", g, 6);
    }

    void stores(int... want) {
        for (int f = 0; f < want.length; f++) answers(want[f], "stores", f);
    }

    /** A ROW of just these. */
    void holds(int r, int... want) {
        for (int i = 0; i < want.length; i++) tells(want[i], "at", r, i);
        finds(Checks.BEYOND, "at", r, want.length);
    }

    /** Answered BAD, FULL, STATE or NONE, and all is as it was. */
    void refuses(int code, String name, int... values) {
        List<Long> before = all();
        answers(code, name, values);
        List<Long> after = all();
        for (int i = 0; i < after.size(); i++) stays(i, before, after, 0, line(name, values));
    }

    /** Answered FINDING, and all is as it was, but for that. */
    void finds(int finding, String name, int... values) {
        List<Long> before = all();
        answers(Checks.FINDING, name, values);
        List<Long> after = all();
        for (int i = 0; i < after.size(); i++) {
            if (i == LATEST) Checks.due(line(name, values) + ", then finding()", after.get(i), finding);
            else stays(i, before, after, i == LATEST + finding ? 1 : 0, line(name, values));
        }
    }

    private static void stays(int i, List<Long> before, List<Long> after, int more, String line) {
        String what = i > LATEST ? "findings(" + (i - LATEST) + ")" : PLAIN.get(i) + "()";
        Checks.due(line + ", then " + what, after.get(i), before.get(i) + more);
    }

    private List<Long> all() {
        if (known != null) return known;
        List<Long> all = new ArrayList<>();
        for (String name : PLAIN) all.add(call(name));
        for (int f = 1; f <= 5; f++) all.add(call("findings", f));
        known = all;
        return all;
    }

    /** digest() as the document tells it, of what the other calls answer and of what is handed over. */
    long reckoned(int[] everFed, int[] keptDays, int[][] rows, int[][] texts) {
        List<Long> all = new ArrayList<>();
        for (int what = 0; what <= 7; what++) all.add(call("count", what));
        for (int f = 0; f < 3; f++) all.add(call("stores", f));
        for (int g = 0; g < everFed.length; g++) {
            for (int what = 0; what <= 6; what++) all.add(call("god", g, what) == 1 ? call("asked") : Long.MIN_VALUE);
            all.add((long) everFed[g]);
        }
        all.add(call("sums"));
        all.add(call("asked"));
        long days = call("count", 1);
        for (int day = 0; day < days; day++) all.add(call("offered", day));
        for (int day : keptDays) all.add((long) day);
        addRows(all, rows);
        addRows(all, texts);
        long h = 17;
        for (long v : all) h = 31 * h + v;
        return h;
    }

    private static void addRows(List<Long> all, int[][] rows) {
        for (int[] row : rows) {
            all.add(row == null ? -1L : row.length);
            if (row != null) for (int v : row) all.add((long) v);
        }
    }
}
