import java.math.BigInteger;
import java.util.ArrayDeque;
import java.util.ArrayList;
import java.util.Deque;
import java.util.HashMap;
import java.util.HashSet;
import java.util.List;
import java.util.Map;
import java.util.Set;
import java.util.TreeMap;
import java.util.TreeSet;

/** The document once more, as slowly and as plainly as can be, to hold the class against. */
final class Model {
    static final int BAD = -1, NO = -2, FULL = -3, NONE = -4;
    static final String FIRST = "t5,0,3,4;t9,1,3,2;t5,2,4,1;t7,3,2,3;p1,0,1;p2,1,2;i0,2;i1,0;i1,3;g2;d5;n0,1,20;n2,3,5;";

    /** One that was told: its parcel, its sort, its answer. */
    record Answer(int p, int sort, int reply) { }

    /** What undo and back bring again. */
    record Moment(List<Set<Integer>> truth, List<Integer> falsely, List<Answer> answers) { }

    static final class Plan {
        final List<int[]> things = new ArrayList<>();
        final List<int[]> parcels = new ArrayList<>();
        final List<Set<Integer>> told = new ArrayList<>();
        int g = 1;
        int d = 40;
        final int[] noticed = {0, 0, 0, 0};
        final int[] lasts = {10, 10, 10, 10};
        int fault = NONE;
    }

    private String text = "";
    private Plan plan;
    private List<List<Set<Integer>>> worlds;
    private Moment now;
    private final Deque<Moment> undo = new ArrayDeque<>();
    private final List<Moment> kept = new ArrayList<>();

    Model() {
        text = FIRST;
        lay();
        text = "";
    }

    // ---- the text

    private static boolean in(int x, int low, int high) {
        return low <= x && x <= high;
    }

    static Plan read(String text) {
        Plan plan = new Plan();
        int start = 0;
        while (start < text.length()) {
            int end = text.indexOf(';', start);
            if (end < 0 || !item(plan, text.substring(start, end))) {
                plan.fault = start;
                return plan;
            }
            start = end + 1;
        }
        return plan;
    }

    private static boolean item(Plan plan, String item) {
        if (!item.matches("[tpigdn][0-9]{1,2}(,[0-9]{1,2})*")) {
            return false;
        }
        String[] parts = item.substring(1).split(",");
        int[] n = new int[parts.length];
        for (int i = 0; i < n.length; i++) {
            n[i] = Integer.parseInt(parts[i]);
        }
        int wanted = switch (item.charAt(0)) {
            case 't' -> 4;
            case 'p', 'n' -> 3;
            case 'i' -> 2;
            default -> 1;
        };
        if (n.length != wanted) {
            return false;
        }
        switch (item.charAt(0)) {
            case 't' -> {
                plan.things.add(n);
                return plan.things.size() <= 8 && in(n[0], 1, 20) && in(n[1], 0, 3) && in(n[2], 0, 9) && in(n[3], 1, 9);
            }
            case 'p' -> {
                plan.parcels.add(n);
                plan.told.add(new TreeSet<>());
                return plan.parcels.size() <= 4 && in(n[0], 0, 9) && in(n[1], 0, 1) && in(n[2], 1, 2);
            }
            case 'i' -> {
                if (n[0] >= plan.parcels.size() || n[1] >= plan.things.size()) {
                    return false;
                }
                plan.told.get(n[0]).add(n[1]);
                return true;
            }
            case 'g' -> {
                plan.g = n[0];
                return in(n[0], 1, 9);
            }
            case 'd' -> {
                plan.d = n[0];
                return in(n[0], 0, 40);
            }
            default -> {
                if (!in(n[0], 0, 3) || !in(n[1], 0, 9) || !in(n[2], 1, 60)) {
                    return false;
                }
                plan.noticed[n[0]] = n[1];
                plan.lasts[n[0]] = n[2];
                return true;
            }
        }
    }

    // ---- worlds

    private static int worth(Plan plan, List<Set<Integer>> world, int child) {
        int sum = 0;
        for (int p = 0; p < world.size(); p++) {
            if (plan.parcels.get(p)[1] == child) {
                for (int t : world.get(p)) {
                    sum += plan.things.get(t)[2];
                }
            }
        }
        return sum;
    }

    static boolean isWorld(Plan plan, List<Set<Integer>> world) {
        Set<Integer> seen = new HashSet<>();
        Set<Integer> children = new HashSet<>();
        for (int p = 0; p < plan.parcels.size(); p++) {
            if (world.get(p).size() != plan.parcels.get(p)[2]) {
                return false;
            }
            for (int t : world.get(p)) {
                if (!seen.add(t)) {
                    return false;
                }
            }
            children.add(plan.parcels.get(p)[1]);
        }
        return children.size() < 2 || Math.abs(worth(plan, world, 0) - worth(plan, world, 1)) <= plan.d;
    }

    private static Set<Integer> setOf(int bits) {
        Set<Integer> set = new TreeSet<>();
        for (int t = 0; t < 8; t++) {
            if ((bits >> t) % 2 == 1) {
                set.add(t);
            }
        }
        return set;
    }

    private static int bitsOf(Set<Integer> set) {
        int bits = 0;
        for (int t : set) {
            bits += 1 << t;
        }
        return bits;
    }

    private static void list(Plan plan, List<Set<Integer>> begun, List<List<Set<Integer>>> into) {
        int p = begun.size();
        if (p == plan.parcels.size()) {
            if (isWorld(plan, begun)) {
                into.add(new ArrayList<>(begun));
            }
            return;
        }
        Set<Integer> used = new HashSet<>();
        begun.forEach(used::addAll);
        for (int bits = 0; bits < 1 << plan.things.size(); bits++) {
            if (Integer.bitCount(bits) == plan.parcels.get(p)[2]) {
                Set<Integer> set = setOf(bits);
                if (set.stream().noneMatch(used::contains)) {
                    begun.add(set);
                    list(plan, begun, into);
                    begun.remove(p);
                }
            }
        }
    }

    private int weight(int p, Set<Integer> set) {
        int sum = plan.parcels.get(p)[0];
        for (int t : set) {
            sum += plan.things.get(t)[0];
        }
        return sum;
    }

    private int reply(int p, int sort, Set<Integer> set, int falsely) {
        boolean rolling = false;
        boolean sliding = false;
        int notSoft = 0;
        for (int t : set) {
            int kind = plan.things.get(t)[1];
            rolling |= kind == 2;
            sliding |= kind == 1;
            notSoft += kind == 0 ? 0 : 1;
        }
        return switch (sort) {
            case 0 -> (weight(p, set) + falsely) / plan.g;
            case 1 -> (rolling ? 2 : 0) + (sliding ? 1 : 0);
            case 2 -> notSoft;
            default -> notSoft == 0 ? 1 : 0;
        };
    }

    private List<List<Set<Integer>>> fit(List<List<Set<Integer>>> from, Answer a) {
        List<List<Set<Integer>>> those = new ArrayList<>();
        for (List<Set<Integer>> world : from) {
            if (reply(a.p, a.sort, world.get(a.p), 0) == a.reply) {
                those.add(world);
            }
        }
        return those;
    }

    private List<List<Set<Integer>>> remaining(int answers) {
        List<List<Set<Integer>>> those = worlds;
        for (int i = 0; i < answers; i++) {
            those = fit(those, now.answers.get(i));
        }
        return those;
    }

    private List<List<Set<Integer>>> remaining() {
        return remaining(now.answers.size());
    }

    private BigInteger chance(List<Set<Integer>> world) {
        BigInteger product = BigInteger.ONE;
        for (Set<Integer> set : world) {
            for (int t : set) {
                product = product.multiply(BigInteger.valueOf(plan.things.get(t)[3]));
            }
        }
        return product;
    }

    private static long part(BigInteger above, BigInteger below, int part) {
        BigInteger common = above.gcd(below);
        return (part == 0 ? above : below).divide(common).longValueExact();
    }

    // ---- the calls

    private boolean noParcel(int p) {
        return !in(p, 0, plan.parcels.size() - 1);
    }

    private boolean noThing(int t) {
        return !in(t, 0, plan.things.size() - 1);
    }

    int write(int letter) {
        if (!in(letter, 32, 126)) {
            return BAD;
        }
        if (text.length() == 200) {
            return FULL;
        }
        text += (char) letter;
        return text.length();
    }

    int wipe() {
        int length = text.length();
        text = "";
        return length;
    }

    int fault() {
        return read(text).fault;
    }

    int lay() {
        Plan read = read(text);
        if (read.fault != NONE || read.parcels.isEmpty() || !isWorld(read, read.told)) {
            return NO;
        }
        plan = read;
        worlds = new ArrayList<>();
        list(plan, new ArrayList<>(), worlds);
        List<Integer> nothing = new ArrayList<>();
        plan.parcels.forEach(p -> nothing.add(0));
        now = new Moment(plan.told, nothing, List.of());
        undo.clear();
        kept.clear();
        return worlds.size();
    }

    int thing(int t, int what) {
        if (noThing(t) || !in(what, 0, 4)) {
            return BAD;
        }
        if (what < 4) {
            return plan.things.get(t)[what];
        }
        for (int p = 0; p < plan.parcels.size(); p++) {
            if (now.truth.get(p).contains(t)) {
                return p;
            }
        }
        return NONE;
    }

    int parcel(int p, int what) {
        if (noParcel(p) || !in(what, 0, 4)) {
            return BAD;
        }
        return what < 3 ? plan.parcels.get(p)[what] : what == 3 ? bitsOf(now.truth.get(p)) : now.falsely.get(p);
    }

    int world(int w, int p) {
        if (w < 0 || noParcel(p)) {
            return BAD;
        }
        return w >= worlds.size() ? NONE : bitsOf(worlds.get(w).get(p));
    }

    int answer(int p, int sort, int set) {
        if (noParcel(p) || !in(sort, 0, 3) || !in(set, 0, (1 << plan.things.size()) - 1)) {
            return BAD;
        }
        return reply(p, sort, setOf(set), 0);
    }

    private void become(Moment then) {
        undo.addLast(now);
        if (undo.size() > 8) {
            undo.removeFirst();
        }
        now = then;
    }

    private void note(Answer a) {
        List<Answer> answers = new ArrayList<>(now.answers);
        answers.add(a);
        become(new Moment(now.truth, now.falsely, answers));
    }

    int attempt(int p, int sort) {
        if (noParcel(p) || !in(sort, 0, 3)) {
            return BAD;
        }
        if (now.answers.size() == 12) {
            return FULL;
        }
        int reply = reply(p, sort, now.truth.get(p), now.falsely.get(p));
        note(new Answer(p, sort, reply));
        return reply;
    }

    int hear(int p, int sort, int answer) {
        if (noParcel(p) || !in(sort, 0, 3) || !in(answer, 0, 99)) {
            return BAD;
        }
        if (now.answers.size() == 12) {
            return FULL;
        }
        note(new Answer(p, sort, answer));
        return now.answers.size();
    }

    int change(int p, int q) {
        if (noParcel(p) || noParcel(q) || p == q) {
            return BAD;
        }
        List<Set<Integer>> truth = new ArrayList<>(now.truth);
        truth.set(p, now.truth.get(q));
        truth.set(q, now.truth.get(p));
        if (!isWorld(plan, truth)) {
            return NO;
        }
        become(new Moment(truth, now.falsely, now.answers));
        return bitsOf(truth.get(p));
    }

    int hide(int p, int weight) {
        if (noParcel(p) || !in(weight, 0, 9)) {
            return BAD;
        }
        List<Integer> falsely = new ArrayList<>(now.falsely);
        int was = falsely.set(p, weight);
        become(new Moment(now.truth, falsely, now.answers));
        return was;
    }

    int undo() {
        if (undo.isEmpty()) {
            return NO;
        }
        now = undo.removeLast();
        return undo.size();
    }

    int left() {
        return remaining().size();
    }

    long likely(int p, int t, int part) {
        if (noParcel(p) || noThing(t) || !in(part, 0, 1)) {
            return BAD;
        }
        if (left() == 0) {
            return NONE;
        }
        BigInteger with = BigInteger.ZERO;
        BigInteger sum = BigInteger.ZERO;
        for (List<Set<Integer>> world : remaining()) {
            sum = sum.add(chance(world));
            if (world.get(p).contains(t)) {
                with = with.add(chance(world));
            }
        }
        return part(with, sum, part);
    }

    int sure(int p, boolean never) {
        if (noParcel(p)) {
            return BAD;
        }
        int bits = 0;
        for (int t = 0; t < plan.things.size(); t++) {
            int thing = t;
            if (never ? remaining().stream().noneMatch(w -> w.get(p).contains(thing))
                    : remaining().stream().allMatch(w -> w.get(p).contains(thing))) {
                bits += 1 << t;
            }
        }
        return bits;
    }

    int judge() {
        for (int i = 0; i < now.answers.size(); i++) {
            if (remaining(i + 1).isEmpty()) {
                return i;
            }
        }
        return NONE;
    }

    long guess(int p, int what) {
        if (noParcel(p) || !in(what, 0, 2)) {
            return BAD;
        }
        if (left() == 0) {
            return NONE;
        }
        TreeMap<Integer, BigInteger> sums = new TreeMap<>();
        BigInteger sum = BigInteger.ZERO;
        for (List<Set<Integer>> world : remaining()) {
            sums.merge(bitsOf(world.get(p)), chance(world), BigInteger::add);
            sum = sum.add(chance(world));
        }
        int best = sums.firstKey();
        for (int bits : sums.keySet()) {
            if (sums.get(bits).compareTo(sums.get(best)) > 0) {
                best = bits;
            }
        }
        return what == 0 ? best : part(sums.get(best), sum, what - 1);
    }

    private Map<Integer, List<List<Set<Integer>>>> parted(List<List<Set<Integer>>> from, int trial) {
        Map<Integer, List<List<Set<Integer>>>> groups = new HashMap<>();
        for (List<Set<Integer>> world : from) {
            int reply = reply(trial / 4, trial % 4, world.get(trial / 4), 0);
            groups.computeIfAbsent(reply, r -> new ArrayList<>()).add(world);
        }
        return groups;
    }

    /** The trial, how many. */
    private int[] best(List<List<Set<Integer>>> from) {
        int[] best = null;
        for (int trial = 0; trial < 4 * plan.parcels.size(); trial++) {
            int worst = 0;
            for (List<List<Set<Integer>>> group : parted(from, trial).values()) {
                worst = Math.max(worst, group.size());
            }
            if (best == null || worst < best[1]) {
                best = new int[] {trial, worst};
            }
        }
        return best;
    }

    int next(int what) {
        if (!in(what, 0, 1)) {
            return BAD;
        }
        return left() == 0 ? NONE : best(remaining())[what];
    }

    private boolean knownBy(List<List<Set<Integer>>> from, int p, int trials) {
        Set<Set<Integer>> may = new HashSet<>();
        from.forEach(w -> may.add(w.get(p)));
        if (may.size() == 1) {
            return true;
        }
        for (int trial = 0; trials > 0 && trial < 4 * plan.parcels.size(); trial++) {
            boolean all = true;
            for (List<List<Set<Integer>>> group : parted(from, trial).values()) {
                all = all && knownBy(group, p, trials - 1);
            }
            if (all) {
                return true;
            }
        }
        return false;
    }

    int few(int p) {
        if (noParcel(p)) {
            return BAD;
        }
        for (int trials = 0; trials <= 2 && left() > 0; trials++) {
            if (knownBy(remaining(), p, trials)) {
                return trials;
            }
        }
        return NONE;
    }

    private int solve(List<List<Set<Integer>>> from, List<Set<Integer>> truth, int what) {
        if (!from.contains(truth)) {
            return NONE;
        }
        List<List<Set<Integer>>> those = from;
        int seconds = 0;
        for (int trials = 0; trials <= 20; trials++) {
            if (those.size() == 1) {
                return what == 0 ? trials : seconds;
            }
            int trial = best(those)[0];
            int p = trial / 4;
            int sort = trial % 4;
            those = fit(those, new Answer(p, sort, reply(p, sort, truth.get(p), 0)));
            seconds += plan.lasts[sort];
        }
        return NONE;
    }

    int solved(int what) {
        return in(what, 0, 1) ? solve(remaining(), now.truth, what) : BAD;
    }

    long risk(int part) {
        if (!in(part, 0, 1)) {
            return BAD;
        }
        BigInteger unseen = BigInteger.ONE;
        for (Answer a : now.answers) {
            unseen = unseen.multiply(BigInteger.valueOf(10 - plan.noticed[a.sort]));
        }
        BigInteger all = BigInteger.TEN.pow(now.answers.size());
        return part(all.subtract(unseen), all, part);
    }

    int seconds() {
        return now.answers.stream().mapToInt(a -> plan.lasts[a.sort]).sum();
    }

    int misled(int p, int what) {
        if (noParcel(p) || !in(what, 0, 1)) {
            return BAD;
        }
        int[] best = {0, -1};
        for (int weight = 0; weight <= 9; weight++) {
            int many = fit(remaining(), new Answer(p, 0, reply(p, 0, now.truth.get(p), weight))).size();
            if (many > best[1]) {
                best = new int[] {weight, many};
            }
        }
        return best[what];
    }

    int more(int what) {
        if (!in(what, 0, 2)) {
            return BAD;
        }
        int[] many = new int[3];
        for (List<Set<Integer>> world : remaining()) {
            int zero = worth(plan, world, 0);
            int one = worth(plan, world, 1);
            many[zero > one ? 0 : zero == one ? 1 : 2]++;
        }
        return many[what];
    }

    int heavier(int p, int q) {
        if (noParcel(p) || noParcel(q) || p == q) {
            return BAD;
        }
        return (int) remaining().stream().filter(w -> weight(p, w.get(p)) > weight(q, w.get(q))).count();
    }

    int morning(int z, int what) {
        if (!in(z, 0, 9999) || !in(what, 0, 1)) {
            return BAD;
        }
        BigInteger x = BigInteger.valueOf(7919).multiply(BigInteger.valueOf(z)).add(BigInteger.ONE);
        int draw = x.multiply(x).mod(BigInteger.valueOf(65521)).intValueExact();
        return solve(worlds, worlds.get(draw % worlds.size()), what);
    }

    int keep() {
        if (kept.size() == 2) {
            return FULL;
        }
        kept.add(now);
        return kept.size();
    }

    int back() {
        if (kept.isEmpty()) {
            return NO;
        }
        now = kept.remove(kept.size() - 1);
        undo.clear();
        return kept.size();
    }

    int count(int what) {
        return switch (what) {
            case 0 -> plan.things.size();
            case 1 -> plan.parcels.size();
            case 2 -> worlds.size();
            case 3 -> now.answers.size();
            case 4 -> undo.size();
            case 5 -> kept.size();
            case 6 -> text.length();
            default -> BAD;
        };
    }
}
