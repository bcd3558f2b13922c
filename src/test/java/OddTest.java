import java.util.List;

/** Each call with each of many odd numbers, held against the plain model: none is let through, none makes it throw. */
public final class OddTest {
    private static final int LEAST = Integer.MIN_VALUE, MOST = Integer.MAX_VALUE;
    private static final int[] ODD = {LEAST, LEAST + 1, LEAST + 32, -65536, -256, -33, -32, -9, -8, -5, -4, -3, -2, -1, 0, 1, 2, 3, 4, 5, 7, 8, 9, 10, 11, 12,
        15, 16, 17, 31, 32, 33, 63, 64, 99, 100, 126, 127, 128, 255, 256, 9999, 10000, 65536, 65568, MOST - 1, MOST};
    /** An object is used for at most 512 calls, those that write its text counted. */
    private static final int CALLS = 300;

    private static final Checks CHECKS = new Checks();

    /** The class and the model side by side. */
    private static final class Two {
        private final ShakenParcels x = new ShakenParcels();
        private final Model m = new Model();
    }

    private interface Asked {
        long on(Two two, int a, int b, int c);
    }

    private record Call(String name, int numbers, Asked ofClass, Asked ofModel) { }

    private static final List<Call> CALLS_OF_ALL = List.of(
            new Call("write", 1, (t, a, b, c) -> t.x.write(a), (t, a, b, c) -> t.m.write(a)),
            new Call("thing", 2, (t, a, b, c) -> t.x.thing(a, b), (t, a, b, c) -> t.m.thing(a, b)),
            new Call("parcel", 2, (t, a, b, c) -> t.x.parcel(a, b), (t, a, b, c) -> t.m.parcel(a, b)),
            new Call("world", 2, (t, a, b, c) -> t.x.world(a, b), (t, a, b, c) -> t.m.world(a, b)),
            new Call("answer", 3, (t, a, b, c) -> t.x.answer(a, b, c), (t, a, b, c) -> t.m.answer(a, b, c)),
            new Call("attempt", 2, (t, a, b, c) -> t.x.attempt(a, b), (t, a, b, c) -> t.m.attempt(a, b)),
            new Call("hear", 3, (t, a, b, c) -> t.x.hear(a, b, c), (t, a, b, c) -> t.m.hear(a, b, c)),
            new Call("change", 2, (t, a, b, c) -> t.x.change(a, b), (t, a, b, c) -> t.m.change(a, b)),
            new Call("hide", 2, (t, a, b, c) -> t.x.hide(a, b), (t, a, b, c) -> t.m.hide(a, b)),
            new Call("likely", 3, (t, a, b, c) -> t.x.likely(a, b, c), (t, a, b, c) -> t.m.likely(a, b, c)),
            new Call("sure", 1, (t, a, b, c) -> t.x.sure(a, false), (t, a, b, c) -> t.m.sure(a, false)),
            new Call("never", 1, (t, a, b, c) -> t.x.sure(a, true), (t, a, b, c) -> t.m.sure(a, true)),
            new Call("guess", 2, (t, a, b, c) -> t.x.guess(a, b), (t, a, b, c) -> t.m.guess(a, b)),
            new Call("next", 1, (t, a, b, c) -> t.x.next(a), (t, a, b, c) -> t.m.next(a)),
            new Call("few", 1, (t, a, b, c) -> t.x.few(a), (t, a, b, c) -> t.m.few(a)),
            new Call("solved", 1, (t, a, b, c) -> t.x.solved(a), (t, a, b, c) -> t.m.solved(a)),
            new Call("risk", 1, (t, a, b, c) -> t.x.risk(a), (t, a, b, c) -> t.m.risk(a)),
            new Call("misled", 2, (t, a, b, c) -> t.x.misled(a, b), (t, a, b, c) -> t.m.misled(a, b)),
            new Call("more", 1, (t, a, b, c) -> t.x.more(a), (t, a, b, c) -> t.m.more(a)),
            new Call("heavier", 2, (t, a, b, c) -> t.x.heavier(a, b), (t, a, b, c) -> t.m.heavier(a, b)),
            new Call("morning", 2, (t, a, b, c) -> t.x.morning(a, b), (t, a, b, c) -> t.m.morning(a, b)),
            new Call("count", 1, (t, a, b, c) -> t.x.count(a), (t, a, b, c) -> t.m.count(a)));

    private OddTest() { }

    public static void main(String[] args) {
        for (String text : List.of("", Edges.FOUR, "t1,0,0,1;p0,0,1;i0,0;", "t1,3,9,9;t20,2,9,9;t1,1,9,9;t20,0,0,1;t9,0,0,1;p9,1,1;p0,0,1;p9,1,1;p0,0,1;i0,0;i1,1;i2,2;i3,3;g9;n0,9,60;")) {
            for (int state = 0; state < 3; state++) {
                for (Call call : CALLS_OF_ALL) {
                    run(call, text, state);
                }
            }
        }
        CHECKS.end();
    }

    private static void run(Call call, String text, int state) {
        int[] one = {0};
        int done = 0;
        Two two = null;
        for (int a : ODD) {
            for (int b : call.numbers > 1 ? ODD : one) {
                for (int c : call.numbers > 2 ? ODD : one) {
                    if (done % CALLS == 0) {
                        two = begin(text, state);
                    }
                    done++;
                    hold(call, two, a, b, c);
                }
            }
        }
        CHECKS.due("answers behind " + call.name, two.x.count(3), two.m.count(3));
        CHECKS.due("undone behind " + call.name, two.x.count(4), two.m.count(4));
        CHECKS.due("left behind " + call.name, two.x.left(), two.m.left());
    }

    private static void hold(Call call, Two two, int a, int b, int c) {
        long want = call.ofModel.on(two, a, b, c);
        try {
            CHECKS.due(call.name + "(" + a + ", " + b + ", " + c + ")", call.ofClass.on(two, a, b, c), want);
        } catch (RuntimeException thrown) {
            CHECKS.holds(call.name + "(" + a + ", " + b + ", " + c + ") threw " + thrown, false);
        }
    }

    /** State 0: nothing is done; 1: some is, and some worlds are left; 2: none is left, and there is no room for answers. */
    private static Two begin(String text, int state) {
        Two two = new Two();
        for (int i = 0; i < text.length(); i++) {
            two.x.write(text.charAt(i));
            two.m.write(text.charAt(i));
        }
        CHECKS.due("lay " + text, two.x.lay(), two.m.lay());
        for (int i = 0; state == 1 && i < 2; i++) {
            CHECKS.due("hide", two.x.hide(0, 3 * i), two.m.hide(0, 3 * i));
            CHECKS.due("attempt", two.x.attempt(0, i + 1), two.m.attempt(0, i + 1));
        }
        for (int i = 0; state == 2 && i < 12; i++) {
            CHECKS.due("hear", two.x.hear(0, 0, 8 * i), two.m.hear(0, 0, 8 * i));
        }
        return two;
    }
}
