import java.util.ArrayList;
import java.util.HashMap;
import java.util.List;
import java.util.Map;
import java.util.TreeMap;
import java.util.regex.Matcher;
import java.util.regex.Pattern;

/**
 * The document told once more, in the slowest and plainest way: lists, maps, a new Moment for each DAY, every PLAN
 * written out. OfferTurn is compared with it.
 */
final class SlowOffer {
    static final int BAD = -1, FULL = -2, FINDING = -3, STATE = -4, NONE = -9;

    private static final String FIGURES = "[0-2][1-6][0-9][0-9]";
    private static final Pattern VALLEY = valleyPattern();

    record God(char letter, int food, int patience, int good, int harm, int neighbour) {
        God withPatience(int p) {
            return new God(letter, food, p, good, harm, neighbour);
        }

        boolean twin() {
            return letter == 't';
        }

        boolean jealous() {
            return letter == 'j' || letter == 'o';
        }

        boolean sleeper() {
            return letter == 's' || letter == 'v';
        }

        int kind() {
            return "gtjsov".indexOf(letter);
        }
    }

    /** The eve of a DAY; what the DAY ahead of it brought stands with it. */
    record Moment(int day, List<Integer> stores, List<Integer> hungers, List<Boolean> gone, List<Boolean> everFed,
            int number, List<Boolean> fed, List<Integer> sent, int cost) {
        int good() {
            return sent.stream().filter(v -> v > 0).mapToInt(v -> v).sum();
        }

        int harm() {
            return -sent.stream().filter(v -> v < 0).mapToInt(v -> v).sum();
        }

        int worth() {
            return good() - harm();
        }

        Moment withGone(int g) {
            List<Boolean> more = new ArrayList<>(gone);
            more.set(g, true);
            return new Moment(day, stores, hungers, more, everFed, number, fed, sent, cost);
        }
    }

    record Kept(List<God> gods, List<Moment> eves, List<Moment> days, Moment now) {
    }

    private List<God> gods = new ArrayList<>();
    /** eves.get(d) is as it was ahead of DAY d, days.get(d) as it was right behind it. */
    private List<Moment> eves = new ArrayList<>();
    private List<Moment> days = new ArrayList<>();
    private Moment now = new Moment(0, List.of(0, 0, 0), List.of(), List.of(), List.of(), 12, List.of(), List.of(), 0);
    private final Map<Integer, Kept> kept = new TreeMap<>();
    private final Map<Integer, int[]> rows = new TreeMap<>();
    private final Map<Integer, byte[]> texts = new TreeMap<>();
    private final Map<Integer, Integer> counted = new HashMap<>();
    private int latest = 0;
    private int told = 0;
    private long up = 0;
    private long low = 1;

    private static Pattern valleyPattern() {
        String nobody = "[^\\x00-\\uffff]";
        StringBuilder all = new StringBuilder(" *f[0-9][0-9][0-9] *");
        String rest = "";
        for (int g = 3; g >= 0; g--) {
            String ahead = g == 0 ? nobody : "[A-" + (char) ('A' + g - 1) + "]";
            String one = "(?:t" + FIGURES + ahead + "|[gjsov]" + FIGURES + "(?:-|" + ahead + "))";
            rest = "(?:" + one + " *" + rest + ")?";
        }
        return Pattern.compile(all + rest);
    }

    private static String signs(byte[] text) {
        StringBuilder all = new StringBuilder();
        for (byte b : text) all.append((char) (b & 255));
        return all.toString();
    }

    private static int firstFault(byte[] text) {
        String all = signs(text);
        if (VALLEY.matcher(all).matches()) return NONE;
        for (int size = 1; size <= all.length(); size++) {
            Matcher matcher = VALLEY.matcher(all.substring(0, size));
            if (!matcher.matches() && !matcher.hitEnd()) return size - 1;
        }
        return all.length();
    }

    private int find(int finding) {
        latest = finding;
        counted.merge(finding, 1, Integer::sum);
        return FINDING;
    }

    private int tell(int value) {
        told = value;
        return 1;
    }

    private void tellFraction(long upper, long lower) {
        long divisor = 1;
        for (long d = 1; d <= lower; d++) if (upper % d == 0 && lower % d == 0) divisor = d;
        up = upper / divisor;
        low = lower / divisor;
    }

    private static boolean within(int v, int least, int most) {
        return v >= least && v <= most;
    }

    private boolean isGod(int g) {
        return within(g, 0, gods.size() - 1);
    }

    private boolean isNumber(int number) {
        return number == 12 || number >= 0 && number < 12 && number / 3 < gods.size();
    }

    int row(int r, int n) {
        if (!within(r, 0, 5) || n > 60) return BAD;
        if (n < 0) return find(5);
        rows.put(r, new int[n]);
        return n;
    }

    int lay(int r, int i, int v) {
        if (!within(r, 0, 5)) return BAD;
        if (!rows.containsKey(r)) return find(1);
        if (!within(i, 0, rows.get(r).length - 1)) return find(2);
        tell(rows.get(r)[i]);
        rows.get(r)[i] = v;
        return 1;
    }

    int at(int r, int i) {
        if (!within(r, 0, 5)) return BAD;
        if (!rows.containsKey(r)) return find(1);
        if (!within(i, 0, rows.get(r).length - 1)) return find(2);
        return tell(rows.get(r)[i]);
    }

    int tear(int r) {
        if (!within(r, 0, 5)) return BAD;
        return rows.remove(r) == null ? find(1) : 1;
    }

    int copy(int r, int i, int to, int j, int n) {
        if (!within(r, 0, 5) || !within(to, 0, 5)) return BAD;
        if (n < 0) return find(5);
        if (!rows.containsKey(r) || !rows.containsKey(to)) return find(1);
        int[] from = rows.get(r).clone();
        int[] target = rows.get(to);
        if (i < 0 || j < 0 || (long) i + n > from.length || (long) j + n > target.length) return find(2);
        for (int k = 0; k < n; k++) target[j + k] = from[i + k];
        return 1;
    }

    int mean(int r) {
        if (!within(r, 0, 5)) return BAD;
        if (!rows.containsKey(r)) return find(1);
        if (rows.get(r).length == 0) return find(4);
        long sum = 0;
        for (int v : rows.get(r)) sum += v;
        return tell((int) (sum / rows.get(r).length));
    }

    int text(int t, int n) {
        if (!within(t, 0, 3) || n > 60) return BAD;
        if (n < 0) return find(5);
        texts.put(t, " ".repeat(n).getBytes());
        return n;
    }

    int put(int t, int i, int v) {
        if (!within(t, 0, 3)) return BAD;
        if (!texts.containsKey(t)) return find(1);
        if (!within(i, 0, texts.get(t).length - 1)) return find(2);
        int before = texts.get(t)[i];
        texts.get(t)[i] = (byte) v;
        return 1000 + before;
    }

    int fault(int t) {
        if (!within(t, 0, 3)) return BAD;
        return texts.containsKey(t) ? firstFault(texts.get(t)) : find(1);
    }

    int valley(int t) {
        if (!within(t, 0, 3)) return BAD;
        if (!texts.containsKey(t)) return find(1);
        if (firstFault(texts.get(t)) != NONE) return STATE;
        String dense = signs(texts.get(t)).replace(" ", "");
        List<Integer> stores = new ArrayList<>();
        for (int f = 0; f < 3; f++) stores.add(dense.charAt(1 + f) - '0');
        gods = new ArrayList<>();
        for (int at = 4; at < dense.length(); at += 6) {
            char last = dense.charAt(at + 5);
            gods.add(new God(dense.charAt(at), dense.charAt(at + 1) - '0', dense.charAt(at + 2) - '0',
                dense.charAt(at + 3) - '0', dense.charAt(at + 4) - '0', last == '-' ? NONE : last - 'A'));
        }
        now = new Moment(0, stores, same(0), same(false), same(false), 12, same(false), same(0), 0);
        eves = new ArrayList<>();
        days = new ArrayList<>();
        kept.clear();
        return gods.size();
    }

    private <T> List<T> same(T value) {
        List<T> all = new ArrayList<>();
        for (int g = 0; g < gods.size(); g++) all.add(value);
        return all;
    }

    private int trait(int g, int what) {
        God god = gods.get(g);
        int hunger = now.gone().get(g) ? NONE : now.hungers().get(g);
        int[] all = {god.kind(), god.food(), god.patience(), god.good(), god.harm(), god.neighbour(), hunger};
        return all[what];
    }

    int god(int g, int what) {
        return isGod(g) && within(what, 0, 6) ? tell(trait(g, what)) : BAD;
    }

    int mark(int g, int kind) {
        if (!isGod(g) || !within(kind, 1, 5)) return BAD;
        God god = gods.get(g);
        if (kind == 1 && god.twin()) return god.neighbour();
        if (kind == 2 && god.jealous()) return daysAgo(god.neighbour());
        if (kind == 3 && god.sleeper()) return now.day() % 2;
        if (kind == 4 && god.letter() == 'o') {
            return now.gone().get(g) ? NONE : Math.max(0, god.patience() + 2 - now.hungers().get(g));
        }
        if (kind == 5 && god.letter() == 'v') return now.everFed().get(g) ? 1 : 0;
        return find(3);
    }

    private int daysAgo(int whom) {
        if (whom == NONE) return NONE;
        int ago = NONE;
        for (int day = 0; day < days.size(); day++) if (days.get(day).fed().get(whom)) ago = days.size() - 1 - day;
        return ago;
    }

    int store(int f, int v) {
        if (!within(f, 0, 2) || !within(v, 0, 99)) return BAD;
        if (gods.isEmpty()) return STATE;
        List<Integer> stores = new ArrayList<>(now.stores());
        int before = stores.set(f, v);
        now = new Moment(now.day(), stores, now.hungers(), now.gone(), now.everFed(), now.number(), now.fed(), now.sent(),
            now.cost());
        return before;
    }

    int stores(int f) {
        return within(f, 0, 2) ? now.stores().get(f) : BAD;
    }

    int patience(int g, int v) {
        if (!isGod(g) || !within(v, 1, 6)) return BAD;
        God before = gods.get(g);
        gods = new ArrayList<>(gods);
        gods.set(g, before.withPatience(v));
        return before.patience();
    }

    private static boolean sleeps(God god, Moment at) {
        return god.sleeper() && at.day() % 2 == 1;
    }

    private static boolean here(List<God> gods, Moment at, int g) {
        return !at.gone().get(g) && !sleeps(gods.get(g), at);
    }

    /** Who is fed by an OFFERING; null, if it can't be. */
    private static List<Boolean> fed(List<God> gods, Moment at, int number) {
        List<Boolean> fed = new ArrayList<>();
        for (int g = 0; g < gods.size(); g++) fed.add(false);
        if (number == 12) return fed;
        int g = number / 3;
        if (g >= gods.size() || !here(gods, at, g)) return null;
        fed.set(g, true);
        for (int h = 0; h < gods.size(); h++) {
            boolean isItsTwin = gods.get(h).twin() && gods.get(h).neighbour() == g;
            boolean isItsOther = gods.get(g).twin() && gods.get(g).neighbour() == h;
            if ((isItsTwin || isItsOther) && here(gods, at, h)) fed.set(h, true);
        }
        return cost(fed) <= at.stores().get(number % 3) ? fed : null;
    }

    private static int cost(List<Boolean> fed) {
        return (int) fed.stream().filter(b -> b).count();
    }

    /** The DAY by an OFFERING; null, if it can't be. */
    private static Moment after(List<God> gods, Moment at, int number) {
        List<Boolean> fed = fed(gods, at, number);
        if (fed == null) return null;
        List<Integer> stores = new ArrayList<>(at.stores());
        if (number != 12) stores.set(number % 3, stores.get(number % 3) - cost(fed));
        List<Integer> hungers = new ArrayList<>(at.hungers());
        List<Boolean> gone = new ArrayList<>(at.gone());
        List<Boolean> ever = new ArrayList<>(at.everFed());
        List<Integer> sent = new ArrayList<>();
        for (int g = 0; g < gods.size(); g++) {
            God god = gods.get(g);
            int hunger = hungers.get(g);
            if (!here(gods, at, g)) {
                sent.add(0);
                continue;
            }
            if (fed.get(g) && number % 3 == god.food()) hunger = 0;
            else if (fed.get(g)) hunger -= 2;
            else hunger++;
            if (!fed.get(g) && !god.twin() && god.neighbour() != NONE && fed.get(god.neighbour())) {
                hunger += god.jealous() ? 2 : 1;
            }
            hunger = Math.max(0, Math.min(9, hunger));
            hungers.set(g, hunger);
            if (fed.get(g)) ever.set(g, true);
            boolean silent = god.letter() == 'v' && !ever.get(g);
            sent.add(silent ? 0 : hunger > god.patience() ? -god.harm() : god.good());
            if (god.letter() == 'o' && hunger - god.patience() >= 2) gone.set(g, true);
        }
        return new Moment(at.day() + 1, stores, hungers, gone, ever, number, fed, sent, cost(fed));
    }

    private int spend(int number) {
        eves.add(now);
        now = after(gods, now, number);
        days.add(now);
        return now.worth();
    }

    int offer(int number) {
        if (!isNumber(number)) return BAD;
        if (gods.isEmpty() || fed(gods, now, number) == null) return STATE;
        if (now.day() == 200) return FULL;
        return tell(spend(number));
    }

    int may(int number) {
        if (!isNumber(number)) return BAD;
        if (gods.isEmpty()) return STATE;
        List<Boolean> fed = fed(gods, now, number);
        return fed == null ? NONE : cost(fed);
    }

    int rest(int n) {
        if (!within(n, 0, 30)) return BAD;
        if (gods.isEmpty()) return STATE;
        if (now.day() + n > 200) return FULL;
        int worth = 0;
        for (int i = 0; i < n; i++) worth += spend(12);
        return tell(worth);
    }

    int sent(int day, int g) {
        if (day < 0 || !isGod(g)) return BAD;
        return day >= days.size() ? find(2) : tell(days.get(day).sent().get(g));
    }

    int offered(int day) {
        if (day < 0) return BAD;
        return day >= days.size() ? find(2) : days.get(day).number();
    }

    int undo(int day) {
        if (!within(day, 0, days.size())) return BAD;
        int many = days.size() - day;
        if (many > 0) now = eves.get(day);
        eves = new ArrayList<>(eves.subList(0, day));
        days = new ArrayList<>(days.subList(0, day));
        return many;
    }

    private int allGood() {
        return days.stream().mapToInt(Moment::good).sum();
    }

    private int allHarm() {
        return days.stream().mapToInt(Moment::harm).sum();
    }

    int sums() {
        tell(allHarm());
        return allGood();
    }

    int keep(int k) {
        if (!within(k, 0, 2)) return BAD;
        if (gods.isEmpty()) return STATE;
        kept.put(k, new Kept(gods, new ArrayList<>(eves), new ArrayList<>(days), now));
        return now.day();
    }

    int on(int k) {
        if (!within(k, 0, 2)) return BAD;
        if (!kept.containsKey(k)) return find(1);
        Kept one = kept.get(k);
        gods = one.gods();
        eves = new ArrayList<>(one.eves());
        days = new ArrayList<>(one.days());
        now = one.now();
        return now.day();
    }

    /** Every PLAN, as the DAYS that it makes. */
    private static List<List<Moment>> plans(List<God> gods, Moment from, int n) {
        List<List<Moment>> all = new ArrayList<>();
        all.add(new ArrayList<>());
        for (int day = 0; day < n; day++) {
            List<List<Moment>> longer = new ArrayList<>();
            for (List<Moment> plan : all) {
                Moment at = plan.isEmpty() ? from : plan.get(plan.size() - 1);
                for (int number = 0; number <= 12; number++) {
                    Moment next = after(gods, at, number);
                    if (next == null) continue;
                    List<Moment> more = new ArrayList<>(plan);
                    more.add(next);
                    longer.add(more);
                }
            }
            all = longer;
        }
        return all;
    }

    private static int worth(List<Moment> plan) {
        return plan.stream().mapToInt(Moment::worth).sum();
    }

    private static int harmOf(List<Moment> plan) {
        return plan.stream().mapToInt(Moment::harm).sum();
    }

    private static int mostWorth(List<List<Moment>> plans) {
        return plans.stream().mapToInt(SlowOffer::worth).max().orElseThrow();
    }

    private List<List<Moment>> harmless(int n) {
        return plans(gods, now, n).stream().filter(p -> harmOf(p) == 0).toList();
    }

    private void putPlan(int r, List<Moment> plan) {
        rows.put(r, plan.stream().mapToInt(Moment::number).toArray());
    }

    int best(int n, int r) {
        if (!within(n, 1, 3) || !within(r, 0, 5)) return BAD;
        if (gods.isEmpty()) return STATE;
        List<List<Moment>> all = plans(gods, now, n);
        int most = mostWorth(all);
        putPlan(r, all.stream().filter(p -> worth(p) == most).findFirst().orElseThrow());
        return tell(most);
    }

    int tries(int r) {
        if (!within(r, 0, 5)) return BAD;
        if (gods.isEmpty()) return STATE;
        if (!rows.containsKey(r)) return find(1);
        if (rows.get(r).length > 30) return find(5);
        for (int number : rows.get(r)) if (!isNumber(number)) return find(3);
        int worth = 0;
        int went = 0;
        Moment at = now;
        for (int number : rows.get(r)) {
            at = after(gods, at, number);
            if (at == null) break;
            went++;
            worth += at.worth();
        }
        tell(worth);
        return went;
    }

    int safe(int n, int r) {
        if (!within(n, 1, 4) || !within(r, 0, 5)) return BAD;
        if (gods.isEmpty()) return STATE;
        List<List<Moment>> all = harmless(n);
        if (all.isEmpty()) return NONE;
        putPlan(r, all.get(0));
        return 1;
    }

    int share(int n) {
        if (!within(n, 1, 3)) return BAD;
        if (gods.isEmpty()) return STATE;
        int many = harmless(n).size();
        tellFraction(many, plans(gods, now, n).size());
        return many;
    }

    int food(int n) {
        if (!within(n, 1, 3)) return BAD;
        if (gods.isEmpty()) return STATE;
        return harmless(n).stream().mapToInt(p -> p.stream().mapToInt(Moment::cost).sum()).min().orElse(NONE);
    }

    int harm(int n) {
        if (!within(n, 1, 3)) return BAD;
        if (gods.isEmpty()) return STATE;
        List<List<Moment>> all = plans(gods, now, n);
        int least = all.stream().mapToInt(SlowOffer::harmOf).min().orElseThrow();
        tell(all.stream().filter(p -> harmOf(p) == least).mapToInt(p -> worth(p) + least).max().orElseThrow());
        return least;
    }

    int starve(int n) {
        if (!within(n, 1, 3)) return BAD;
        if (gods.isEmpty()) return STATE;
        List<List<Moment>> all = plans(gods, now, n);
        TreeMap<Integer, Integer> firstByLoss = new TreeMap<>();
        for (int g = 0; g < gods.size(); g++) {
            int last = g;
            if (now.gone().get(g)) continue;
            int most = mostWorth(all.stream().filter(p -> p.stream().noneMatch(d -> d.fed().get(last))).toList());
            firstByLoss.putIfAbsent(mostWorth(all) - most, g);
        }
        if (firstByLoss.isEmpty()) return NONE;
        tell(firstByLoss.firstKey());
        return firstByLoss.firstEntry().getValue();
    }

    int price(int g, int n) {
        if (!isGod(g) || !within(n, 1, 3)) return BAD;
        if (now.gone().get(g)) return STATE;
        return tell(mostWorth(plans(gods, now, n)) - mostWorth(plans(gods, now.withGone(g), n)));
    }

    int altar(int g, int food, int patience, int n) {
        if (!isGod(g) || !within(food, 0, 2) || !within(patience, 1, 6) || !within(n, 1, 3)) return BAD;
        if (now.gone().get(g)) return STATE;
        List<God> others = new ArrayList<>(gods);
        God god = gods.get(g);
        others.set(g, new God(god.letter(), food, patience, god.good(), god.harm(), god.neighbour()));
        return tell(mostWorth(plans(others, now, n)));
    }

    /** Value and first number of what two villages come to. */
    private int[] duel(Moment at, int set, int left, boolean first) {
        if (left == 0) return new int[] {0, 12};
        int[] chosen = null;
        for (int number = 0; number <= 12; number++) {
            Moment next = after(gods, at, number);
            if (next == null) continue;
            int value = duel(next, set, left - 1, !first)[0];
            for (int g = 0; g < gods.size(); g++) if ((set & 1 << g) != 0) value += next.sent().get(g);
            if (chosen == null || (first ? value > chosen[0] : value < chosen[0])) chosen = new int[] {value, number};
        }
        return chosen;
    }

    int turns(int set, int n) {
        if (!within(set, 0, (1 << gods.size()) - 1) || !within(n, 0, 3)) return BAD;
        if (gods.isEmpty()) return STATE;
        int[] result = duel(now, set, n, true);
        tellFraction(result[1], 1);
        return tell(result[0]);
    }

    private boolean bookFits(List<God> those, int r, int worths) {
        Moment at = now;
        for (int i = 0; i < rows.get(r).length; i++) {
            at = after(those, at, rows.get(r)[i]);
            if (at == null || at.worth() != rows.get(worths)[i]) return false;
        }
        return true;
    }

    private List<God> withPatience(int g, int p) {
        List<God> others = new ArrayList<>(gods);
        others.set(g, gods.get(g).withPatience(p));
        return others;
    }

    private int bookFinding(int r, int worths) {
        if (!rows.containsKey(r) || !rows.containsKey(worths)) return 1;
        if (rows.get(r).length > 30 || rows.get(r).length != rows.get(worths).length) return 5;
        for (int number : rows.get(r)) if (!isNumber(number)) return 3;
        return 0;
    }

    int fits(int g, int r, int worths) {
        if (!isGod(g) || !within(r, 0, 5) || !within(worths, 0, 5)) return BAD;
        if (bookFinding(r, worths) != 0) return find(bookFinding(r, worths));
        int bits = 0;
        for (int p = 1; p <= 6; p++) if (bookFits(withPatience(g, p), r, worths)) bits += 1 << p;
        return bits;
    }

    int whose(int r, int worths) {
        if (!within(r, 0, 5) || !within(worths, 0, 5)) return BAD;
        if (gods.isEmpty()) return STATE;
        if (bookFinding(r, worths) != 0) return find(bookFinding(r, worths));
        int bits = 0;
        int ways = 0;
        for (int g = 0; g < gods.size(); g++) {
            for (int p = 1; p <= 6; p++) {
                if (p == gods.get(g).patience() || !bookFits(withPatience(g, p), r, worths)) continue;
                bits |= 1 << g;
                ways++;
            }
        }
        tell(ways);
        return bits;
    }

    int ask(int g) {
        if (!isGod(g)) return BAD;
        if (now.gone().get(g)) return STATE;
        TreeMap<Integer, Integer> firstByLeft = new TreeMap<>();
        for (int number = 0; number <= 12; number++) {
            Map<Integer, Integer> byWorth = new HashMap<>();
            for (int p = 1; p <= 6; p++) {
                Moment next = after(withPatience(g, p), now, number);
                if (next != null) byWorth.merge(next.worth(), 1, Integer::sum);
            }
            if (!byWorth.isEmpty()) firstByLeft.putIfAbsent(java.util.Collections.max(byWorth.values()), number);
        }
        tell(firstByLeft.firstKey());
        return firstByLeft.firstEntry().getValue();
    }

    int year(int seed, int n) {
        if (!within(seed, 1, 2147483646) || !within(n, 1, 100)) return BAD;
        if (gods.isEmpty()) return STATE;
        long number = seed;
        int worth = 0;
        int harmed = 0;
        Moment at = now;
        for (int day = 0; day < n; day++) {
            number = 48271 * number % 2147483647L;
            Moment next = after(gods, at, (int) (number % 13));
            at = next == null ? after(gods, at, 12) : next;
            worth += at.worth();
            if (at.harm() > 0) harmed++;
        }
        tellFraction(harmed, 1);
        return tell(worth);
    }

    int asked() {
        return told;
    }

    long upper() {
        return up;
    }

    long lower() {
        return low;
    }

    int count(int what) {
        long[] all = {gods.size(), now.day(), now.gone().stream().filter(b -> b).count(),
            gods.stream().filter(God::jealous).count(), gods.stream().filter(God::sleeper).count(), kept.size(),
            rows.size(), texts.size()};
        return within(what, 0, 7) ? (int) all[what] : BAD;
    }

    int finding() {
        return latest;
    }

    int findings(int f) {
        return within(f, 1, 5) ? counted.getOrDefault(f, 0) : BAD;
    }

    long digest() {
        List<Integer> all = new ArrayList<>();
        for (int what = 0; what <= 7; what++) all.add(count(what));
        all.addAll(now.stores());
        for (int g = 0; g < gods.size(); g++) {
            for (int what = 0; what <= 6; what++) all.add(trait(g, what));
            all.add(now.everFed().get(g) ? 1 : 0);
        }
        all.add(allGood());
        all.add(allHarm());
        for (Moment day : days) all.add(day.number());
        for (int k = 0; k < 3; k++) all.add(kept.containsKey(k) ? kept.get(k).now().day() : -1);
        for (int r = 0; r < 6; r++) {
            all.add(rows.containsKey(r) ? rows.get(r).length : -1);
            if (rows.containsKey(r)) for (int v : rows.get(r)) all.add(v);
        }
        for (int t = 0; t < 4; t++) {
            all.add(texts.containsKey(t) ? texts.get(t).length : -1);
            if (texts.containsKey(t)) for (byte v : texts.get(t)) all.add((int) v);
        }
        long h = 17;
        for (int v : all) h = 31 * h + v;
        return h;
    }
}
