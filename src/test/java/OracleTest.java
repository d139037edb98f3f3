import java.lang.reflect.InvocationTargetException;
import java.lang.reflect.Method;
import java.lang.reflect.Modifier;
import java.util.ArrayList;
import java.util.List;
import java.util.Random;

/**
 * Runs of random calls, each made of an OfferTurn and of a SlowOffer: all that they answer and tell must agree. May be
 * told how many runs, and from which seed on.
 */
public final class OracleTest {
    private static final int RUNS = 1500;
    private static final int CALLS = 500;
    private static final int[] ODD = {-1, -9, 61, 200, Integer.MAX_VALUE, Integer.MIN_VALUE, Integer.MAX_VALUE - 1};

    private static final List<Method> CALLED = new ArrayList<>();
    private static final List<Method> SLOW = new ArrayList<>();

    private final Random random;
    private final int run;
    private final OfferTurn quick = new OfferTurn();
    private final SlowOffer slow = new SlowOffer();
    private final StringBuilder story = new StringBuilder();
    private int made = 0;

    private OracleTest(int run) {
        this.run = run;
        this.random = new Random(run);
    }

    public static void main(String[] args) throws ReflectiveOperationException {
        for (Method m : OfferTurn.class.getDeclaredMethods()) {
            if (Modifier.isPublic(m.getModifiers())) CALLED.add(m);
        }
        CALLED.sort((a, b) -> a.getName().compareTo(b.getName()));
        for (Method m : CALLED) SLOW.add(SlowOffer.class.getDeclaredMethod(m.getName(), m.getParameterTypes()));
        int runs = args.length > 0 ? Integer.parseInt(args[0]) : RUNS;
        int first = args.length > 1 ? Integer.parseInt(args[1]) : 0;
        for (int run = 0; run < runs; run++) new OracleTest(first + run).go();
        System.out.println(runs + " runs agree");
    }

    private void go() throws ReflectiveOperationException {
        boolean isLong = random.nextInt(5) == 0;
        while (random.nextInt(10) > 0 && quick.count(0) == 0) settle();
        while (made < CALLS) {
            int way = random.nextInt(40);
            if (way == 0 && random.nextInt(isLong ? 40 : 4) == 0) settle();
            else if (isLong && way == 4) call("rest", random.nextInt(31));
            else if (way <= 2) book();
            else if (way == 3) plan(random.nextInt(6), random.nextInt(12));
            else if (way < 20) live();
            else anything();
            call("digest");
        }
    }

    private void live() throws ReflectiveOperationException {
        switch (random.nextInt(8)) {
            case 0 -> call("rest", random.nextInt(4));
            case 1 -> call("store", random.nextInt(3), random.nextInt(6));
            case 2 -> call("undo", Math.max(0, quick.count(1) - random.nextInt(5)));
            default -> call("offer", random.nextInt(13));
        }
    }

    private void anything() throws ReflectiveOperationException {
        Method m = CALLED.get(random.nextInt(CALLED.size()));
        String name = m.getName();
        boolean isDear = List.of("best", "starve", "price", "altar", "turns", "safe", "share", "food", "harm").contains(name);
        if (isDear && random.nextInt(3) == 0) return;
        if (name.equals("safe") && random.nextInt(3) > 0) return;
        int[] values = new int[m.getParameterCount()];
        for (int i = 0; i < values.length; i++) values[i] = argument(name, i);
        call(name, values);
    }

    private int argument(String name, int i) {
        if (random.nextInt(40) == 0) return ODD[random.nextInt(ODD.length)];
        switch (name + i) {
            case "rest0": return random.nextInt(32);
            case "row1": case "text1": return random.nextInt(random.nextInt(10) == 0 ? 61 : 5);
            case "put2": return " f0123ABCgtjsov-".charAt(random.nextInt(16)) + 256 * random.nextInt(2);
            case "offer0": case "may0": return random.nextInt(14);
            case "sent0": case "offered0": case "undo0": return random.nextInt(quick.count(1) + 2);
            case "store1": return random.nextInt(101);
            case "turns0": return random.nextInt(1 << quick.count(0));
            case "year0": return 1 + random.nextInt(Integer.MAX_VALUE - 1);
            case "year1": return random.nextInt(102);
            case "best0": case "share0": case "food0": case "harm0": case "starve0": case "price1": case "altar3":
            case "turns1": case "safe0": return random.nextInt(10) < 7 ? 1 + random.nextInt(2) : random.nextInt(5);
            case "lay2": return random.nextInt(14);
            case "god0": case "mark0": case "patience0": case "sent1": case "price0": case "altar0": case "fits0": case "ask0":
                return random.nextInt(10) == 0 ? quick.count(0) : random.nextInt(Math.max(1, quick.count(0)));
            case "keep0": case "on0": case "store0": case "stores0": case "altar1": return random.nextInt(random.nextInt(8) + 3);
            case "altar2": case "patience1": return 1 + random.nextInt(random.nextInt(8) == 0 ? 7 : 6);
            default: return random.nextInt(7);
        }
    }

    private void settle() throws ReflectiveOperationException {
        String signs = random.nextInt(4) == 0 ? spoilt(signs()) : signs();
        int t = random.nextInt(4);
        call("text", t, signs.length());
        for (int i = 0; i < signs.length(); i++) if (signs.charAt(i) != ' ') call("put", t, i, signs.charAt(i));
        call("fault", t);
        call("valley", t);
    }

    private String blanks() {
        return " ".repeat(Math.max(0, random.nextInt(6) - 3));
    }

    private String signs() {
        StringBuilder all = new StringBuilder(blanks()).append('f');
        boolean isRich = random.nextBoolean();
        for (int f = 0; f < 3; f++) all.append(isRich ? 5 + random.nextInt(5) : random.nextInt(4));
        int many = random.nextInt(20) == 0 ? 0 : 1 + random.nextInt(4);
        for (int g = 0; g < many; g++) {
            char letter = "gtjsov".charAt(random.nextInt(6));
            if (g == 0 && letter == 't') letter = 'o';
            all.append(blanks()).append(letter).append(random.nextInt(3));
            all.append(1 + random.nextInt(random.nextBoolean() ? 2 : 6));
            all.append(random.nextInt(10)).append(random.nextInt(3) == 0 ? 0 : random.nextInt(10));
            boolean isAlone = g == 0 || letter != 't' && random.nextInt(3) == 0;
            all.append(isAlone ? '-' : (char) ('A' + random.nextInt(g)));
        }
        return all.append(blanks()).toString();
    }

    private String spoilt(String signs) {
        int i = random.nextInt(signs.length());
        switch (random.nextInt(4)) {
            case 0: return signs.substring(0, i);
            case 1: return signs.substring(0, i) + signs.substring(i + 1);
            case 2: return signs + "g0111-";
            default: return signs.substring(0, i) + "f -ABCDEgtjsov0379/:@x".charAt(random.nextInt(22)) + signs.substring(i + 1);
        }
    }

    private void plan(int r, int size) throws ReflectiveOperationException {
        call("row", r, size);
        for (int i = 0; i < size; i++) {
            boolean isAny = random.nextInt(30) == 0;
            int number = isAny ? random.nextInt(14) : random.nextInt(3 * quick.count(0) + 1);
            call("lay", r, i, !isAny && number == 3 * quick.count(0) ? 12 : number);
        }
        call("tries", r);
    }

    /** A book that some PATIENCE can have written: lived through, looked up, undone. */
    private void book() throws ReflectiveOperationException {
        int gods = quick.count(0);
        int first = quick.count(1);
        int size = 1 + random.nextInt(7);
        if (gods == 0 || first + size > 200) return;
        int own = random.nextInt(gods);
        quick.god(own, 2);
        int patience = quick.asked();
        slow.god(own, 2);
        call("patience", own, 1 + random.nextInt(6));
        call("row", 4, 0);
        call("row", 5, 0);
        int[] numbers = new int[size];
        int[] worths = new int[size];
        for (int i = 0; i < size; i++) {
            numbers[i] = random.nextInt(4) == 0 ? 12 : random.nextInt(3 * gods);
            if (call("offer", numbers[i]) != 1) {
                numbers[i] = 12;
                call("offer", 12);
            }
            worths[i] = quick.asked();
        }
        call("undo", first);
        call("patience", own, patience);
        call("row", 4, size);
        call("row", 5, size);
        for (int i = 0; i < size; i++) {
            call("lay", 4, i, numbers[i]);
            call("lay", 5, i, worths[i]);
        }
        call("fits", own, 4, 5);
        call("fits", random.nextInt(gods), 4, 5);
        call("whose", 4, 5);
        call("ask", own);
    }

    private long call(String name, int... values) throws ReflectiveOperationException {
        int at = 0;
        while (!CALLED.get(at).getName().equals(name)) at++;
        Object[] boxed = new Object[values.length];
        story.append(name).append('(');
        for (int i = 0; i < values.length; i++) {
            boxed[i] = values[i];
            story.append(i == 0 ? "" : ", ").append(values[i]);
        }
        story.append(") ");
        made++;
        long got = answer(CALLED.get(at), quick, boxed);
        long want = answer(SLOW.get(at), slow, boxed);
        agree(name, got, want);
        agree("asked", quick.asked(), slow.asked());
        agree("upper", quick.upper(), slow.upper());
        agree("lower", quick.lower(), slow.lower());
        agree("finding", quick.finding(), slow.finding());
        return got;
    }

    private long answer(Method method, Object one, Object[] values) throws ReflectiveOperationException {
        try {
            return ((Number) method.invoke(one, values)).longValue();
        } catch (InvocationTargetException e) {
            System.out.println("run " + run + ": " + story);
            throw e;
        }
    }

    private void agree(String name, long got, long want) {
        if (got == want) return;
        System.out.println("run " + run + ", " + name + ": " + got + ", due is " + want + ", behind " + story);
        System.exit(1);
    }
}
