import java.util.ArrayList;
import java.util.Collections;
import java.util.List;
import java.util.Random;

/** Runs of drawn calls, each answered by the class and by the plain model. */
public final class ModelTest {
    private static final int RUNS = 1500;
    private static final int CALLS = 500;
    /** Runs on trees of any size are slow in the model, so only some are. */
    private static final int LARGE_EVERY = 50;

    private final Checks checks = new Checks();
    private final Random random;
    private final ShakenParcels x = new ShakenParcels();
    private final Model model = new Model();
    private final String name;

    private ModelTest(int seed) {
        random = new Random(seed);
        name = "run " + seed;
    }

    public static void main(String[] args) {
        int runs = args.length > 0 ? Integer.parseInt(args[0]) : RUNS;
        Checks all = new Checks();
        for (int seed = 0; seed < runs; seed++) {
            ModelTest test = new ModelTest(seed);
            test.run(seed % LARGE_EVERY == LARGE_EVERY - 1);
            test.checks.addTo(all);
        }
        all.end();
    }

    private void run(boolean large) {
        int calls = large ? 60 : CALLS;
        boolean first = random.nextInt(4) == 0;
        if (!first) {
            lay(large);
        }
        for (int i = 0; i < calls; i++) {
            if (random.nextInt(150) == 0) {
                lay(large);
            }
            call(random.nextInt(34));
        }
    }

    private void due(String call, long got, long want) {
        checks.due(name + ": " + call, got, want);
    }

    private void lay(boolean large) {
        due("wipe", x.wipe(), model.wipe());
        String text = drawText(large ? 8 : 5, large ? 4 : 3);
        for (char c : text.toCharArray()) {
            due("write", x.write(c), model.write(c));
        }
        due("fault of " + text, x.fault(), model.fault());
        due("lay " + text, x.lay(), model.lay());
    }

    private int from(int low, int high) {
        return low + random.nextInt(high - low + 1);
    }

    private String drawText(int mostThings, int mostParcels) {
        List<String> ahead = new ArrayList<>();
        int parcels = from(1, mostParcels);
        int[] room = new int[parcels];
        int needed = 0;
        for (int p = 0; p < parcels; p++) {
            room[p] = from(1, 2);
            needed += room[p];
            ahead.add("p" + from(0, 9) + "," + from(0, 1) + "," + room[p] + ";");
        }
        int things = Math.max(needed, from(1, mostThings));
        boolean alike = random.nextInt(3) == 0;
        for (int t = 0; t < things; t++) {
            ahead.add("t" + (alike ? from(1, 3) : from(1, 20)) + "," + from(0, 3) + "," + from(0, 9) + "," + from(1, 9) + ";");
        }
        Collections.shuffle(ahead, random);
        addSettings(ahead);
        addTruth(ahead, room, things);
        if (random.nextInt(6) == 0) {
            spoil(ahead);
        }
        String text = String.join("", ahead);
        return text.length() > 200 ? text.substring(0, 200) : text;
    }

    private void addSettings(List<String> text) {
        if (random.nextBoolean()) {
            text.add(random.nextInt(text.size()), "g" + from(1, 9) + ";");
        }
        if (random.nextInt(3) == 0) {
            text.add(random.nextInt(text.size()), "d" + from(0, 20) + ";");
        }
        for (int n = from(0, 3); n > 0; n--) {
            text.add(random.nextInt(text.size()), "n" + from(0, 3) + "," + from(0, 9) + "," + from(1, 60) + ";");
        }
    }

    private void addTruth(List<String> text, int[] room, int things) {
        List<Integer> order = new ArrayList<>();
        for (int t = 0; t < things; t++) {
            order.add(t);
        }
        Collections.shuffle(order, random);
        int taken = 0;
        // the numbers of parcels go by their order in the text, which was shuffled
        int p = 0;
        for (String item : new ArrayList<>(text)) {
            if (item.charAt(0) == 'p') {
                int many = item.charAt(item.length() - 2) - '0';
                for (int i = 0; i < many; i++) {
                    text.add("i" + p + "," + order.get(taken++) + ";");
                }
                p++;
            }
        }
        if (random.nextInt(4) == 0) {
            text.add(text.get(text.size() - 1));
        }
    }

    private void spoil(List<String> text) {
        int at = random.nextInt(text.size());
        String item = text.get(at);
        switch (random.nextInt(7)) {
            case 0 -> text.remove(at);
            case 1 -> text.set(at, item.substring(0, item.length() - 1));
            case 2 -> text.set(at, item.replaceFirst("[0-9]", "" + from(0, 99)));
            case 3 -> text.set(at, item.replace(";", "," + from(0, 9) + ";"));
            case 4 -> text.set(at, item.charAt(0) + "" + (char) from(32, 126) + item.substring(2));
            case 5 -> text.set(at, (char) from(32, 126) + item.substring(1));
            default -> Collections.swap(text, at, random.nextInt(text.size()));
        }
    }

    /** A number below the bound, now and then one that is not. */
    private int some(int bound) {
        if (random.nextInt(25) == 0) {
            int[] odd = {-1, bound, bound + 1, Integer.MIN_VALUE, Integer.MAX_VALUE, 32, 8 * bound};
            return odd[random.nextInt(odd.length)];
        }
        return random.nextInt(Math.max(1, bound));
    }

    private void call(int number) {
        int p = some(model.count(1));
        int q = some(model.count(1));
        int t = some(model.count(0));
        int sort = some(4);
        int two = some(2);
        int three = some(3);
        switch (number) {
            case 0 -> { int c = some(130); due("write(" + c + ")", x.write(c), model.write(c)); }
            case 1 -> due("fault()", x.fault(), model.fault());
            case 2 -> { int w = some(5); due("thing(" + t + "," + w + ")", x.thing(t, w), model.thing(t, w)); }
            case 3 -> { int w = some(5); due("parcel(" + p + "," + w + ")", x.parcel(p, w), model.parcel(p, w)); }
            case 4 -> { int w = some(model.count(2)); due("world(" + w + "," + p + ")", x.world(w, p), model.world(w, p)); }
            case 5 -> { int s = some(1 << model.count(0));
                due("answer(" + p + "," + sort + "," + s + ")", x.answer(p, sort, s), model.answer(p, sort, s)); }
            case 6, 7 -> due("attempt(" + p + "," + sort + ")", x.attempt(p, sort), model.attempt(p, sort));
            case 8 -> { int a = drawAnswer(p, sort);
                due("hear(" + p + "," + sort + "," + a + ")", x.hear(p, sort, a), model.hear(p, sort, a)); }
            case 9, 10 -> due("change(" + p + "," + q + ")", x.change(p, q), model.change(p, q));
            case 11 -> { int w = some(10); due("hide(" + p + "," + w + ")", x.hide(p, w), model.hide(p, w)); }
            case 12, 13, 14 -> due("undo()", x.undo(), model.undo());
            case 15, 16 -> due("left()", x.left(), model.left());
            case 17 -> due("likely(" + p + "," + t + "," + two + ")", x.likely(p, t, two), model.likely(p, t, two));
            case 18 -> { boolean n = random.nextBoolean(); due("sure(" + p + "," + n + ")", x.sure(p, n), model.sure(p, n)); }
            case 19 -> due("judge()", x.judge(), model.judge());
            case 20 -> due("guess(" + p + "," + three + ")", x.guess(p, three), model.guess(p, three));
            case 21 -> due("next(" + two + ")", x.next(two), model.next(two));
            case 22 -> due("few(" + p + ")", x.few(p), model.few(p));
            case 23 -> due("solved(" + two + ")", x.solved(two), model.solved(two));
            case 24 -> due("risk(" + two + ")", x.risk(two), model.risk(two));
            case 25 -> due("seconds()", x.seconds(), model.seconds());
            case 26 -> due("misled(" + p + "," + two + ")", x.misled(p, two), model.misled(p, two));
            case 27 -> due("more(" + three + ")", x.more(three), model.more(three));
            case 28 -> due("heavier(" + p + "," + q + ")", x.heavier(p, q), model.heavier(p, q));
            case 29 -> { int z = some(10000); due("morning(" + z + "," + two + ")", x.morning(z, two), model.morning(z, two)); }
            case 30 -> due("keep()", x.keep(), model.keep());
            case 31 -> due("back()", x.back(), model.back());
            case 32 -> { int w = some(7); due("count(" + w + ")", x.count(w), model.count(w)); }
            default -> { if (random.nextInt(30) == 0) { due("lay()", x.lay(), model.lay()); } }
        }
    }

    /** Mostly one that some world gives, so that worlds remain. */
    private int drawAnswer(int p, int sort) {
        if (random.nextInt(5) == 0) {
            return some(100);
        }
        int set = model.world(random.nextInt(model.count(2)), p);
        return set < 0 ? 0 : model.answer(p, sort, set);
    }
}
