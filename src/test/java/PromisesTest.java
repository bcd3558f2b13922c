/** Each promise by itself: ordinary calls, the edges, wrong numbers. All answers were found by hand. */
public final class PromisesTest {
    private static final int BAD = ShakenParcels.BAD, NO = ShakenParcels.NO, FULL = ShakenParcels.FULL, NONE = ShakenParcels.NONE;
    private static final int LEAST = Integer.MIN_VALUE, MOST = Integer.MAX_VALUE;
    private static final String TWINS = "t5,0,0,1;t5,0,0,1;p0,0,1;i0,0;";
    private static final String UNLIKE = "t1,0,0,1;t2,0,0,1;p0,0,1;i0,0;";
    private static final String FOUR = "t1,0,1,1;t2,1,2,1;t3,2,3,1;t4,3,4,1;p1,0,1;p2,1,1;p3,0,2;i0,0;i1,1;i2,2;i2,3;";

    private static final Checks CHECKS = new Checks();

    public static void main(String[] args) {
        aNewObject();
        write();
        wipe();
        faultOfThings();
        faultOfParcels();
        faultOfTruth();
        faultOfSettings();
        faultOfForm();
        lay();
        layBegins();
        layWithoutAndLast();
        thing();
        parcel();
        world();
        answer();
        attempt();
        hear();
        change();
        hide();
        undo();
        left();
        likely();
        sure();
        judge();
        guess();
        next();
        few();
        solved();
        risk();
        seconds();
        misled();
        more();
        heavier();
        morning();
        keepAndBack();
        count();
        badIsAheadOfAll();
        CHECKS.end();
    }

    private static void due(String what, long got, long want) {
        CHECKS.due(what, got, want);
    }

    private static void row(String what, long[] got, long... want) {
        CHECKS.row(what, got, want);
    }

    private static long[] all(long... got) {
        return got;
    }

    private static void faults(String text, int place) {
        ShakenParcels x = new ShakenParcels();
        Checks.write(x, text);
        due("fault of " + text, x.fault(), place);
        due("length after fault of " + text, x.count(6), text.length());
    }

    private static long[] counts(ShakenParcels x) {
        return all(x.count(0), x.count(1), x.count(2), x.count(3), x.count(4), x.count(5), x.count(6));
    }

    private static void aNewObject() {
        ShakenParcels x = new ShakenParcels();
        row("constants", all(BAD, NO, FULL, NONE), -1, -2, -3, -4);
        row("counts of a new object", counts(x), 4, 2, 12, 0, 0, 0, 0);
        row("truth", all(x.parcel(0, 3), x.parcel(1, 3)), 4, 9);
        due("fault of nothing", x.fault(), NONE);
        due("nothing can be laid", x.lay(), NO);
        due("worlds remain", x.count(2), 12);
        ShakenParcels y = new ShakenParcels();
        x.attempt(0, 0);
        due("objects are apart", y.count(3), 0);
    }

    private static void write() {
        ShakenParcels x = new ShakenParcels();
        row("letters", all(x.write(31), x.write(127), x.write(-1), x.write(LEAST), x.write(MOST), x.write(32), x.write(126)),
                BAD, BAD, BAD, BAD, BAD, 1, 2);
        for (int i = 3; i <= 200; i++) {
            due("write", x.write('t'), i);
        }
        row("full", all(x.write('t'), x.write(31), x.count(6), x.wipe(), x.write('t')), FULL, BAD, 200, 200, 1);
    }

    private static void wipe() {
        ShakenParcels x = new ShakenParcels();
        row("wipe", all(x.wipe(), x.write('g'), x.write('2'), x.wipe(), x.wipe(), x.count(6)), 0, 1, 2, 2, 0, 0);
        Checks.lay(x, UNLIKE);
        row("what is laid stays", all(x.wipe(), x.count(2), x.count(6)), UNLIKE.length(), 2, 0);
    }

    private static void faultOfThings() {
        faults("t1,0,0,1;", NONE);
        faults("t20,3,9,9;", NONE);
        faults("t01,00,09,01;", NONE);
        faults("t0,0,0,1;", 0);
        faults("t21,0,0,1;", 0);
        faults("t1,4,0,1;", 0);
        faults("t1,0,10,1;", 0);
        faults("t1,0,0,0;", 0);
        faults("t1,0,0,10;", 0);
        faults("t1,0,0;", 0);
        faults("t1,0,0,1,1;", 0);
        String thing = "t1,0,0,1;";
        faults(thing.repeat(8), NONE);
        faults(thing.repeat(9), 72);
        faults(thing.repeat(8) + "t1,0,0,0;", 72);
    }

    private static void faultOfParcels() {
        faults("p0,0,1;", NONE);
        faults("p9,1,2;", NONE);
        faults("p10,0,1;", 0);
        faults("p0,2,1;", 0);
        faults("p0,0,0;", 0);
        faults("p0,0,3;", 0);
        faults("p0,0;", 0);
        faults("p0,0,1,1;", 0);
        faults("p0,0,1;".repeat(4), NONE);
        faults("p0,0,1;".repeat(5), 28);
    }

    private static void faultOfTruth() {
        faults("t1,0,0,1;p0,0,1;i0,0;", NONE);
        faults("t1,0,0,1;p0,0,1;i0,0;i0,0;", NONE);
        faults("t1,0,0,1;p0,0,1;p0,0,1;i0,0;i1,0;", NONE);
        faults("t1,0,0,1;p0,0,1;i1,0;", 16);
        faults("t1,0,0,1;p0,0,1;i0,1;", 16);
        faults("t1,0,0,1;i0,0;p0,0,1;", 9);
        faults("p0,0,1;i0,0;t1,0,0,1;", 7);
        faults("t1,0,0,1;p0,0,1;i0;", 16);
        faults("t1,0,0,1;p0,0,1;i0,0,0;", 16);
    }

    private static void faultOfSettings() {
        faults("g1;g9;g09;", NONE);
        faults("g0;", 0);
        faults("g10;", 0);
        faults("g1,1;", 0);
        faults("d0;d40;d00;", NONE);
        faults("d41;", 0);
        faults("d1,1;", 0);
        faults("n0,0,1;n3,9,60;n0,0,1;", NONE);
        faults("n4,0,1;", 0);
        faults("n0,10,1;", 0);
        faults("n0,0,0;", 0);
        faults("n0,0,61;", 0);
        faults("n0,0;", 0);
        faults("n0,0,1,1;", 0);
    }

    private static void faultOfForm() {
        faults("", NONE);
        faults(";", 0);
        faults("g", 0);
        faults("g;", 0);
        faults("g1", 0);
        faults("g1,", 0);
        faults("g1,;", 0);
        faults("g,1;", 0);
        faults("g1;;", 3);
        faults("g1; ", 3);
        faults("g1; g1;", 3);
        faults("g 1;", 0);
        faults("g1 ;", 0);
        faults("G1;", 0);
        faults("1;", 0);
        faults("x1;", 0);
        faults("g001;", 0);
        faults("d100;", 0);
        faults("g-1;", 0);
        faults("g1.", 0);
        faults("d:;", 0);
        faults("d/;", 0);
        faults("d1:;", 0);
        faults("t1,,0,1;", 0);
        faults("d1;g0;g0;", 3);
        faults("g1;".repeat(66) + "g1", 198);
        faults("g1;".repeat(65) + "g0001", 195);
    }

    private static void lay() {
        ShakenParcels x = new ShakenParcels();
        due("a thing in a parcel", Checks.lay(x, UNLIKE), 2);
        due("letters stay", x.count(6), UNLIKE.length());
        due("laid again", x.lay(), 2);
        due("no parcel", Checks.lay(x, "t1,0,0,1;"), NO);
        due("a fault", Checks.lay(x, UNLIKE + "g0;"), NO);
        due("nothing in it", Checks.lay(x, "t1,0,0,1;p0,0,1;"), NO);
        due("too little in it", Checks.lay(x, "t1,0,0,1;t1,0,0,1;p0,0,2;i0,0;"), NO);
        due("the same twice is not two", Checks.lay(x, "t1,0,0,1;t1,0,0,1;p0,0,2;i0,0;i0,0;"), NO);
        due("too much in it", Checks.lay(x, "t1,0,0,1;t1,0,0,1;p0,0,1;i0,0;i0,1;"), NO);
        due("one in two", Checks.lay(x, "t1,0,0,1;t1,0,0,1;p0,0,1;p0,0,1;i0,0;i1,0;"), NO);
        due("more room than things", Checks.lay(x, "t1,0,0,1;p0,0,2;i0,0;"), NO);
        due("the same again", Checks.lay(x, UNLIKE + "i0,0;"), 2);
        String unfair = "t1,0,9,1;t1,2,0,1;p0,0,1;p0,1,1;i0,0;i1,1;";
        due("too far apart", Checks.lay(x, unfair + "d8;"), NO);
        due("just not too far apart", Checks.lay(x, unfair + "d9;"), 2);
        due("one child alone", Checks.lay(x, "t1,0,9,1;t1,2,0,1;p0,1,1;p0,1,1;i0,0;i1,1;d0;"), 2);
        due("unfair worlds are none", Checks.lay(x, "t1,0,1,1;t1,2,1,1;t1,0,5,1;p0,0,1;p0,1,1;i0,0;i1,1;d3;"), 2);
        due("most worlds", Checks.lay(x, "t1,0,0,1;".repeat(8) + "p0,0,2;p0,0,2;p0,0,1;p0,1,2;i0,0;i0,1;i1,2;i1,3;i2,4;i3,5;i3,6;"), 5040);
        due("most worlds remain", x.left(), 5040);
        due("few worlds again", Checks.lay(x, UNLIKE), 2);
    }

    private static void layBegins() {
        ShakenParcels x = new ShakenParcels();
        x.attempt(0, 0);
        x.hide(1, 3);
        x.keep();
        Checks.lay(x, "p0,0,1;");
        row("NO changes nothing", counts(x), 4, 2, 12, 1, 2, 1, 7);
        due("NO leaves false weights", x.parcel(1, 4), 3);
        Checks.lay(x, Model.FIRST);
        row("all begins", counts(x), 4, 2, 12, 0, 0, 0, Model.FIRST.length());
        row("nothing false, undone, kept", all(x.parcel(1, 4), x.undo(), x.back(), x.left()), 0, NO, NO, 12);
        Checks.lay(x, FOUR);
        x.change(0, 1);
        x.lay();
        due("the truth is as told", x.parcel(0, 3), 1);
        x.wipe();
        Checks.write(x, "g0;");
        x.fault();
        row("a fault changes nothing laid", all(x.count(1), x.parcel(2, 0), x.answer(2, 0, 15)), 3, 3, 13);
    }

    private static void layWithoutAndLast() {
        ShakenParcels x = Checks.laid(UNLIKE);
        row("a scale of 1 without", all(x.answer(0, 0, 3)), 3);
        x.attempt(0, 1);
        row("0 and 10 without", all(x.risk(0), x.risk(1), x.seconds()), 0, 1, 10);
        Checks.lay(x, "g9;" + UNLIKE + "g2;");
        due("the last scale", x.answer(0, 0, 3), 1);
        Checks.lay(x, UNLIKE + "n1,9,60;n1,5,7;n0,4,8;");
        x.attempt(0, 1);
        row("the last of a sort", all(x.risk(0), x.risk(1), x.seconds()), 1, 2, 7);
        String apart = "t1,0,9,1;t1,0,0,1;p0,0,1;p0,1,1;i0,0;i1,1;";
        due("the last apart", Checks.lay(x, apart + "d0;d9;"), 2);
        due("the last apart again", Checks.lay(x, apart + "d9;d0;"), NO);
        String most = "t1,0,9,1;t1,0,9,1;t1,0,9,1;t1,0,9,1;t1,0,%d,1;t1,0,0,1;t1,0,0,1;p0,0,2;p0,0,2;p0,0,2;p0,1,1;"
                + "i0,0;i0,1;i1,2;i1,3;i2,4;i2,5;i3,6;";
        due("just 40 apart without", Checks.lay(x, String.format(most, 4)), 630);
        due("41 apart without", Checks.lay(x, String.format(most, 5)), NO);
    }

    private static void thing() {
        ShakenParcels x = new ShakenParcels();
        row("thing 0", all(x.thing(0, 0), x.thing(0, 1), x.thing(0, 2), x.thing(0, 3), x.thing(0, 4)), 5, 0, 3, 4, 1);
        row("thing 1", all(x.thing(1, 0), x.thing(1, 1), x.thing(1, 2), x.thing(1, 3), x.thing(1, 4)), 9, 1, 3, 2, NONE);
        row("thing 3", all(x.thing(3, 0), x.thing(3, 1), x.thing(3, 2), x.thing(3, 3), x.thing(3, 4)), 7, 3, 2, 3, 1);
        row("no such", all(x.thing(-1, 0), x.thing(4, 0), x.thing(0, -1), x.thing(0, 5), x.thing(LEAST, 4), x.thing(MOST, 4)),
                BAD, BAD, BAD, BAD, BAD, BAD);
        Checks.lay(x, FOUR);
        row("by the truth of now", all(x.thing(0, 4), x.change(0, 1), x.thing(0, 4), x.thing(1, 4)), 0, 2, 1, 0);
    }

    private static void parcel() {
        ShakenParcels x = new ShakenParcels();
        row("parcel 0", all(x.parcel(0, 0), x.parcel(0, 1), x.parcel(0, 2), x.parcel(0, 3), x.parcel(0, 4)), 1, 0, 1, 4, 0);
        row("parcel 1", all(x.parcel(1, 0), x.parcel(1, 1), x.parcel(1, 2), x.parcel(1, 3), x.parcel(1, 4)), 2, 1, 2, 9, 0);
        x.hide(1, 9);
        row("false weights", all(x.parcel(0, 4), x.parcel(1, 4)), 0, 9);
        row("no such", all(x.parcel(-1, 0), x.parcel(2, 0), x.parcel(0, -1), x.parcel(0, 5), x.parcel(MOST, 0), x.parcel(LEAST, 4)),
                BAD, BAD, BAD, BAD, BAD, BAD);
        Checks.lay(x, "t1,0,0,1;".repeat(8) + "p0,0,1;p0,0,1;p0,0,1;p9,1,2;i0,0;i1,1;i2,2;i3,6;i3,7;");
        row("the last parcel, the last things", all(x.parcel(3, 0), x.parcel(3, 3), x.thing(7, 4), x.thing(5, 4)), 9, 192, 3, NONE);
    }

    private static void world() {
        ShakenParcels x = new ShakenParcels();
        int[] zero = {1, 1, 1, 2, 2, 2, 4, 4, 4, 8, 8, 8};
        int[] one = {6, 10, 12, 5, 9, 12, 3, 9, 10, 3, 5, 6};
        for (int w = 0; w < 12; w++) {
            due("world " + w + " of 0", x.world(w, 0), zero[w]);
            due("world " + w + " of 1", x.world(w, 1), one[w]);
        }
        row("no such", all(x.world(12, 0), x.world(MOST, 1), x.world(-1, 0), x.world(LEAST, 0), x.world(0, 2), x.world(0, -1), x.world(12, 2)),
                NONE, NONE, BAD, BAD, BAD, BAD, BAD);
        x.attempt(0, 1);
        due("answers leave out none", x.world(11, 1), 6);
        Checks.lay(x, "t1,0,0,1;".repeat(8) + "p0,0,2;p0,0,2;p0,1,2;p0,1,2;i0,0;i0,1;i1,2;i1,3;i2,4;i2,5;i3,6;i3,7;");
        row("the first", all(x.world(0, 0), x.world(0, 1), x.world(0, 2), x.world(0, 3)), 3, 12, 48, 192);
        row("the last", all(x.world(2519, 0), x.world(2519, 1), x.world(2519, 2), x.world(2519, 3), x.world(2520, 0)), 192, 48, 12, 3, NONE);
    }

    private static void answer() {
        ShakenParcels x = new ShakenParcels();
        row("weigh", all(x.answer(0, 0, 0), x.answer(1, 0, 0), x.answer(0, 0, 15), x.answer(1, 0, 15), x.answer(1, 0, 8)), 0, 1, 13, 14, 4);
        row("tip", all(x.answer(0, 1, 0), x.answer(0, 1, 1), x.answer(0, 1, 2), x.answer(0, 1, 4), x.answer(0, 1, 8), x.answer(0, 1, 6)),
                0, 0, 1, 2, 0, 3);
        row("shake", all(x.answer(0, 2, 0), x.answer(0, 2, 1), x.answer(0, 2, 2), x.answer(0, 2, 14), x.answer(0, 2, 15)), 0, 0, 1, 3, 3);
        row("press", all(x.answer(0, 3, 0), x.answer(0, 3, 1), x.answer(0, 3, 2), x.answer(0, 3, 9), x.answer(0, 3, 4)), 1, 1, 0, 0, 0);
        x.hide(0, 9);
        due("nothing put in falsely", x.answer(0, 0, 1), 3);
        row("no such", all(x.answer(2, 0, 0), x.answer(-1, 0, 0), x.answer(0, 4, 0), x.answer(0, -1, 0), x.answer(0, 0, 16), x.answer(0, 0, -1),
                x.answer(0, 0, MOST), x.answer(LEAST, MOST, LEAST)), BAD, BAD, BAD, BAD, BAD, BAD, BAD, BAD);
        Checks.lay(x, "t20,2,0,1;".repeat(8) + "p9,0,1;i0,0;");
        row("all of eight", all(x.answer(0, 0, 255), x.answer(0, 2, 255), x.answer(0, 0, 256)), 169, 8, BAD);
    }

    private static void attempt() {
        ShakenParcels x = new ShakenParcels();
        row("by the truth", all(x.attempt(0, 0), x.attempt(0, 1), x.attempt(0, 2), x.attempt(0, 3), x.attempt(1, 0), x.attempt(1, 1),
                x.attempt(1, 2), x.attempt(1, 3)), 3, 2, 1, 0, 7, 0, 1, 0);
        due("the truth is left", x.left(), 1);
        row("no such", all(x.attempt(2, 0), x.attempt(-1, 0), x.attempt(0, 4), x.attempt(0, -1), x.count(3)), BAD, BAD, BAD, BAD, 8);
        x.hide(0, 9);
        row("false weights are weighed alone", all(x.attempt(0, 0), x.attempt(0, 1), x.attempt(0, 2), x.attempt(0, 3)), 7, 2, 1, 0);
        row("full", all(x.count(3), x.attempt(0, 0), x.attempt(2, 0), x.attempt(0, 4), x.count(3), x.count(4)), 12, FULL, BAD, BAD, 12, 8);
    }

    private static void hear() {
        ShakenParcels x = new ShakenParcels();
        row("whatever it is", all(x.hear(0, 0, 0), x.hear(1, 3, 99)), 1, 2);
        row("no such", all(x.hear(0, 0, 100), x.hear(0, 0, -1), x.hear(2, 0, 0), x.hear(-1, 0, 0), x.hear(0, 4, 0), x.hear(0, -1, 0), x.count(3)),
                BAD, BAD, BAD, BAD, BAD, BAD, 2);
        for (int i = 3; i <= 12; i++) {
            due("hear", x.hear(1, 1, 0), i);
        }
        row("full", all(x.hear(0, 0, 0), x.attempt(0, 0), x.hear(0, 0, 100), x.count(3), x.undo(), x.hear(0, 0, 0)), FULL, FULL, BAD, 12, 7, 12);
    }

    private static void change() {
        ShakenParcels x = Checks.laid(FOUR);
        row("no such", all(x.change(0, 0), x.change(3, 0), x.change(0, 3), x.change(-1, 0), x.change(0, -1), x.change(3, 3)), BAD, BAD, BAD, BAD, BAD, BAD);
        row("of unlike numbers", all(x.change(0, 2), x.change(2, 1), x.count(4)), NO, NO, 0);
        x.hide(0, 5);
        row("changed", all(x.change(0, 1), x.parcel(0, 3), x.parcel(1, 3), x.parcel(2, 3), x.count(4)), 2, 2, 1, 12, 2);
        row("boxes and false weights stay", all(x.parcel(0, 0), x.parcel(0, 4), x.parcel(1, 4), x.attempt(0, 0), x.attempt(1, 0)), 1, 5, 0, 8, 3);
        row("back again", all(x.change(1, 0), x.parcel(0, 3)), 2, 1);
        row("answers stay", all(x.count(3), x.left()), 2, 0);
        Checks.lay(x, "t1,0,9,1;t1,0,0,1;t1,0,5,1;t1,0,5,1;p0,0,1;p0,0,1;p0,1,1;p0,1,1;i0,0;i1,1;i2,2;i3,3;d1;");
        row("no world then", all(x.change(0, 2), x.change(1, 2), x.count(4), x.parcel(0, 3), x.change(0, 1)), NO, NO, 0, 1, 2);
    }

    private static void hide() {
        ShakenParcels x = new ShakenParcels();
        row("which one was", all(x.hide(0, 3), x.hide(0, 9), x.hide(0, 0), x.hide(0, 0), x.hide(1, 1), x.hide(1, 1)), 0, 3, 9, 0, 0, 1);
        row("no such", all(x.hide(0, 10), x.hide(0, -1), x.hide(2, 0), x.hide(-1, 0), x.count(4)), BAD, BAD, BAD, BAD, 6);
        row("weighed", all(x.hide(0, 4), x.attempt(0, 0), x.attempt(1, 0)), 0, 5, 7);
        due("worlds are without it", x.left(), 2);
        due("the answer is that of parcel 0 with thing 1", x.world(4, 0), x.sure(0, false));
    }

    private static void undo() {
        ShakenParcels x = Checks.laid(FOUR);
        due("nothing yet", x.undo(), NO);
        x.attempt(0, 0);
        x.hear(0, 1, 99);
        x.change(0, 1);
        x.hide(1, 7);
        row("what was hidden", all(x.undo(), x.parcel(1, 4), x.count(4)), 3, 0, 3);
        row("what was changed", all(x.undo(), x.parcel(0, 3), x.parcel(1, 3)), 2, 1, 2);
        row("what was heard", all(x.left(), x.judge(), x.undo(), x.count(3), x.left(), x.judge()), 0, 1, 1, 1, 3, NONE);
        row("what was tried", all(x.undo(), x.count(3), x.left(), x.undo()), 0, 0, 12, NO);
        for (int weight = 1; weight <= 9; weight++) {
            x.hide(0, weight);
        }
        due("8 at most", x.count(4), 8);
        for (int more = 7; more >= 0; more--) {
            due("undo", x.undo(), more);
            due("false weight", x.parcel(0, 4), more + 1);
        }
        row("no more", all(x.undo(), x.parcel(0, 4)), NO, 1);
        x.hide(0, 2);
        x.hide(0, 10);
        x.change(0, 2);
        x.attempt(0, 4);
        row("what was not done is not undone", all(x.undo(), x.parcel(0, 4)), 0, 1);
    }

    private static void left() {
        ShakenParcels x = new ShakenParcels();
        row("left", all(x.left(), x.attempt(1, 0), x.left(), x.hear(0, 1, 1), x.left(), x.hear(0, 1, 2), x.left()), 12, 7, 4, 2, 2, 3, 0);
        row("undone", all(x.undo(), x.left(), x.undo(), x.left(), x.undo(), x.left()), 2, 2, 1, 4, 0, 12);
        Checks.lay(x, FOUR);
        x.attempt(0, 0);
        x.change(0, 1);
        due("the truth of now is not asked", x.left(), 3);
    }

    private static void likely() {
        ShakenParcels x = new ShakenParcels();
        long[] above = {22, 19, 13, 7};
        long[] below = {75, 75, 75, 25};
        for (int t = 0; t < 4; t++) {
            row("thing " + t, all(x.likely(0, t, 0), x.likely(0, t, 1)), above[t], below[t]);
        }
        row("in two", all(x.likely(1, 0, 0), x.likely(1, 0, 1)), 44, 75);
        row("no such", all(x.likely(2, 0, 0), x.likely(-1, 0, 0), x.likely(0, 4, 0), x.likely(0, -1, 0), x.likely(0, 0, 2), x.likely(0, 0, -1)),
                BAD, BAD, BAD, BAD, BAD, BAD);
        x.attempt(0, 1);
        row("sure", all(x.likely(0, 2, 0), x.likely(0, 2, 1)), 1, 1);
        row("never", all(x.likely(0, 1, 0), x.likely(0, 1, 1)), 0, 1);
        x.hear(0, 1, 3);
        row("none", all(x.likely(0, 2, 0), x.likely(0, 2, 1)), NONE, NONE);
        Checks.lay(x, "t1,0,0,9;".repeat(7) + "t1,0,0,8;" + "p0,0,2;p0,0,2;p0,0,1;p0,1,2;i0,0;i0,1;i1,2;i1,3;i2,4;i3,5;i3,6;");
        row("large", all(x.likely(2, 7, 0), x.likely(2, 7, 1)), 8, 65);
    }

    private static void sure() {
        ShakenParcels x = new ShakenParcels();
        row("at first", all(x.sure(0, false), x.sure(0, true), x.sure(1, false), x.sure(1, true)), 0, 0, 0, 0);
        x.attempt(1, 0);
        row("then", all(x.sure(0, false), x.sure(0, true), x.sure(1, false), x.sure(1, true)), 0, 8, 8, 2);
        x.attempt(0, 1);
        row("at last", all(x.sure(0, false), x.sure(0, true), x.sure(1, false), x.sure(1, true)), 4, 11, 9, 6);
        x.hear(0, 0, 99);
        row("none left", all(x.sure(0, false), x.sure(0, true), x.sure(1, false), x.sure(1, true)), 15, 15, 15, 15);
        row("no such", all(x.sure(2, false), x.sure(-1, true), x.sure(MOST, true), x.sure(LEAST, false)), BAD, BAD, BAD, BAD);
    }

    private static void judge() {
        ShakenParcels x = new ShakenParcels();
        due("no answers", x.judge(), NONE);
        x.hear(0, 1, 3);
        x.hear(0, 1, 3);
        due("the first", x.judge(), 0);
        x.undo();
        x.undo();
        for (int i = 0; i < 11; i++) {
            x.attempt(0, 0);
        }
        due("none", x.judge(), NONE);
        x.hear(0, 0, 4);
        due("the last", x.judge(), 11);
        x.undo();
        due("none again", x.judge(), NONE);
    }

    private static void guess() {
        ShakenParcels x = new ShakenParcels();
        row("of 0", all(x.guess(0, 0), x.guess(0, 1), x.guess(0, 2)), 1, 22, 75);
        row("of 1", all(x.guess(1, 0), x.guess(1, 1), x.guess(1, 2)), 9, 6, 25);
        row("no such", all(x.guess(2, 0), x.guess(-1, 0), x.guess(0, 3), x.guess(0, -1)), BAD, BAD, BAD, BAD);
        x.attempt(0, 1);
        row("sure", all(x.guess(0, 0), x.guess(0, 1), x.guess(0, 2)), 4, 1, 1);
        x.hear(0, 1, 1);
        row("none", all(x.guess(0, 0), x.guess(0, 1), x.guess(0, 2), x.guess(0, 3)), NONE, NONE, NONE, BAD);
        Checks.lay(x, "t1,0,0,1;t1,0,0,2;t1,0,0,2;p0,0,1;i0,0;");
        row("the lowest of several", all(x.guess(0, 0), x.guess(0, 1), x.guess(0, 2)), 2, 2, 5);
    }

    private static void next() {
        ShakenParcels x = new ShakenParcels();
        row("at first", all(x.next(0), x.next(1)), 4, 4);
        x.attempt(1, 0);
        row("the first of several", all(x.next(0), x.next(1)), 0, 2);
        x.attempt(0, 0);
        row("then", all(x.next(0), x.next(1)), 1, 1);
        x.attempt(0, 1);
        row("one left", all(x.left(), x.next(0), x.next(1)), 1, 0, 1);
        x.hear(0, 1, 1);
        row("none left", all(x.next(0), x.next(1), x.next(2), x.next(-1)), NONE, NONE, BAD, BAD);
        Checks.lay(x, TWINS);
        row("none tells", all(x.next(0), x.next(1)), 0, 2);
        Checks.lay(x, "t1,0,0,1;t1,1,0,1;t1,3,0,1;p0,0,1;i0,0;");
        row("tip tells two apart", all(x.next(0), x.next(1)), 1, 2);
        Checks.lay(x, "t1,0,0,1;t1,3,0,1;p0,0,1;i0,0;");
        row("shake", all(x.next(0), x.next(1)), 2, 1);
    }

    private static void few() {
        ShakenParcels x = new ShakenParcels();
        row("two", all(x.few(0), x.few(1)), 2, 2);
        x.hear(0, 1, 1);
        row("none needed, two", all(x.few(0), x.few(1)), 0, 2);
        x.hear(1, 0, 7);
        row("one", all(x.few(0), x.few(1)), 0, 1);
        x.hear(1, 0, 6);
        row("none left", all(x.few(0), x.few(1), x.few(2), x.few(-1)), NONE, NONE, BAD, BAD);
        due("one trial", few(UNLIKE, 0), 1);
        due("twins", few(TWINS, 0), NONE);
        due("one thing", few("t5,0,0,1;p0,0,1;i0,0;", 0), 0);
        due("two are not enough", few("t1,0,0,1;t1,0,0,1;t2,0,0,1;p0,0,1;i0,0;", 0), NONE);
        due("by the other parcel", few("t1,0,0,1;t2,0,0,1;p0,0,1;p7,0,1;i0,0;i1,1;g9;", 0), 1);
        due("the second by the first", few("t1,1,0,1;t1,2,0,1;t2,0,0,1;t2,3,0,1;p0,0,1;i0,0;", 0), 2);
    }

    private static int few(String text, int p) {
        return Checks.laid(text).few(p);
    }

    private static void solved() {
        ShakenParcels x = new ShakenParcels();
        row("at first", all(x.solved(0), x.solved(1), x.count(3), x.left()), 3, 50, 0, 12);
        x.hide(1, 9);
        row("no false weights", all(x.solved(0), x.solved(1)), 3, 50);
        x.undo();
        x.attempt(1, 0);
        row("from now", all(x.solved(0), x.solved(1)), 2, 30);
        x.attempt(0, 1);
        row("nothing to do", all(x.left(), x.solved(0), x.solved(1)), 1, 0, 0);
        for (int i = 2; i < 12; i++) {
            x.attempt(0, 3);
        }
        due("behind 12 answers", x.solved(0), 0);
        row("no such", all(x.solved(2), x.solved(-1)), BAD, BAD);
        Checks.lay(x, FOUR);
        for (int i = 0; i < 12; i++) {
            x.attempt(0, 3);
        }
        row("more than 12 answers", all(x.count(3), x.left(), x.solved(0), x.solved(1)), 12, 3, 1, 10);
        x = new ShakenParcels();
        x.hear(0, 1, 1);
        row("the truth is not left", all(x.left(), x.solved(0), x.solved(1), x.solved(2)), 3, NONE, NONE, BAD);
        x.hear(0, 0, 99);
        row("none is left", all(x.solved(0), x.solved(1)), NONE, NONE);
        Checks.lay(x, TWINS);
        row("it does not come to that", all(x.solved(0), x.solved(1)), NONE, NONE);
        Checks.lay(x, "t1,0,0,1;t1,0,0,1;t2,0,0,1;p0,0,1;i0,2;");
        row("it comes to that by the truth", all(x.solved(0), x.solved(1)), 1, 10);
    }

    private static void risk() {
        ShakenParcels x = new ShakenParcels();
        row("none", all(x.risk(0), x.risk(1)), 0, 1);
        x.attempt(0, 1);
        row("no risk", all(x.risk(0), x.risk(1)), 0, 1);
        x.attempt(0, 0);
        x.hear(1, 2, 99);
        row("heard, too", all(x.risk(0), x.risk(1)), 37, 100);
        row("no such", all(x.risk(2), x.risk(-1)), BAD, BAD);
        Checks.lay(x, UNLIKE + "n0,9,1;n1,5,1;");
        x.attempt(0, 1);
        row("lowest terms", all(x.risk(0), x.risk(1)), 1, 2);
        x.undo();
        for (int i = 0; i < 12; i++) {
            x.attempt(0, 0);
        }
        row("twelve", all(x.risk(0), x.risk(1)), 999999999999L, 1000000000000L);
    }

    private static void seconds() {
        ShakenParcels x = new ShakenParcels();
        row("seconds", all(x.seconds(), x.attempt(0, 0), x.seconds(), x.hear(0, 2, 9), x.seconds(), x.attempt(0, 3), x.seconds()), 0, 3, 20, 2, 25, 0, 35);
        row("undone", all(x.undo(), x.seconds(), x.hide(0, 1), x.seconds()), 2, 25, 0, 25);
        Checks.lay(x, UNLIKE + "n3,0,60;");
        for (int i = 0; i < 12; i++) {
            x.attempt(0, 3);
        }
        due("most", x.seconds(), 720);
    }

    private static void misled() {
        ShakenParcels x = new ShakenParcels();
        row("the lowest", all(x.misled(0, 0), x.misled(0, 1), x.misled(1, 0), x.misled(1, 1)), 0, 6, 0, 4);
        row("no such", all(x.misled(2, 0), x.misled(-1, 0), x.misled(0, 2), x.misled(0, -1)), BAD, BAD, BAD, BAD);
        x.hear(1, 0, 8);
        row("of what is left", all(x.misled(1, 0), x.misled(1, 1)), 2, 4);
        x.hear(1, 0, 7);
        row("none left", all(x.misled(1, 0), x.misled(1, 1)), 0, 0);
        Checks.lay(x, "t1,0,0,1;t5,0,0,1;t5,0,0,1;t11,0,0,1;t11,0,0,1;t11,0,0,1;p0,0,1;i0,0;");
        row("9 at most", all(x.misled(0, 0), x.misled(0, 1)), 4, 2);
        x.hide(0, 6);
        row("in place of the one that was", all(x.misled(0, 0), x.misled(0, 1), x.parcel(0, 4)), 4, 2, 6);
        x.hear(0, 0, 11);
        row("none would be", all(x.misled(0, 0), x.misled(0, 1)), 0, 0);
        Checks.lay(x, "t1,0,0,1;t10,0,0,1;t10,0,0,1;p0,0,1;i0,0;");
        row("just 9", all(x.misled(0, 0), x.misled(0, 1)), 9, 2);
    }

    private static void more() {
        ShakenParcels x = new ShakenParcels();
        row("less", all(x.more(0), x.more(1), x.more(2)), 0, 0, 12);
        row("no such", all(x.more(3), x.more(-1), x.more(MOST), x.more(LEAST)), BAD, BAD, BAD, BAD);
        Checks.lay(x, "t1,0,1,1;t2,0,2,1;t3,0,2,1;t4,0,9,1;p0,0,1;p0,1,1;i0,0;i1,1;d9;");
        row("each", all(x.more(0), x.more(1), x.more(2)), 5, 2, 5);
        x.attempt(0, 0);
        row("of what is left", all(x.more(0), x.more(1), x.more(2)), 0, 0, 3);
        x.hear(0, 0, 9);
        row("none left", all(x.more(0), x.more(1), x.more(2)), 0, 0, 0);
        Checks.lay(x, "t1,0,0,1;t1,0,1,1;p0,1,1;i0,0;");
        row("one child alone", all(x.more(0), x.more(1), x.more(2)), 0, 1, 1);
    }

    private static void heavier() {
        ShakenParcels x = Checks.laid("t5,0,0,1;t4,0,0,1;p0,0,1;p1,0,1;i0,0;i1,1;g9;");
        row("as heavy is not heavier, the scale does not count", all(x.heavier(0, 1), x.heavier(1, 0)), 0, 1);
        row("no such", all(x.heavier(0, 0), x.heavier(2, 0), x.heavier(0, 2), x.heavier(-1, 0), x.heavier(0, -1)), BAD, BAD, BAD, BAD, BAD);
        x.hide(0, 9);
        due("nor what is put in falsely", x.heavier(0, 1), 0);
        x = new ShakenParcels();
        row("at first", all(x.heavier(0, 1), x.heavier(1, 0)), 0, 12);
        x.attempt(1, 0);
        due("of what is left", x.heavier(1, 0), 4);
        x.hear(1, 0, 99);
        due("none left", x.heavier(1, 0), 0);
    }

    private static void morning() {
        ShakenParcels x = new ShakenParcels();
        row("world 1", all(x.morning(0, 0), x.morning(0, 1)), 2, 30);
        row("world 3", all(x.morning(9999, 0), x.morning(9999, 1)), 2, 40);
        row("no such", all(x.morning(-1, 0), x.morning(10000, 0), x.morning(0, 2), x.morning(0, -1)), BAD, BAD, BAD, BAD);
        x.attempt(0, 1);
        x.hear(0, 0, 99);
        row("from no answers", all(x.morning(0, 0), x.morning(0, 1), x.parcel(0, 3), x.count(3), x.left()), 2, 30, 4, 2, 0);
        Checks.lay(x, TWINS);
        row("none", all(x.morning(0, 0), x.morning(5, 1), x.morning(5, 2)), NONE, NONE, BAD);
        Checks.lay(x, "t5,0,0,1;p0,0,1;i0,0;");
        row("one world", all(x.morning(7, 0), x.morning(7, 1)), 0, 0);
    }

    private static void keepAndBack() {
        ShakenParcels x = Checks.laid(FOUR);
        due("nothing kept", x.back(), NO);
        x.attempt(0, 0);
        due("kept", x.keep(), 1);
        x.change(0, 1);
        x.hide(2, 4);
        x.hear(1, 1, 0);
        row("kept again", all(x.keep(), x.keep(), x.count(5), x.count(4)), 2, FULL, 2, 4);
        x.undo();
        x.undo();
        x.undo();
        x.undo();
        row("the last", all(x.left(), x.back(), x.count(3), x.count(4), x.count(5), x.undo()), 12, 1, 2, 0, 1, NO);
        row("the truth, false weights, answers", all(x.parcel(0, 3), x.parcel(2, 4), x.left(), x.seconds()), 2, 4, 1, 20);
        x.hide(2, 5);
        row("the first", all(x.count(4), x.back(), x.count(3), x.count(4), x.parcel(0, 3), x.parcel(2, 4), x.left()), 1, 0, 1, 0, 1, 0, 3);
        row("no more", all(x.back(), x.count(5), x.undo()), NO, 0, NO);
        x.hide(0, 1);
        row("NO leaves what can be undone", all(x.back(), x.count(4), x.keep(), x.count(4)), NO, 1, 1, 1);
    }

    private static void count() {
        ShakenParcels x = Checks.laid(FOUR);
        x.attempt(0, 0);
        x.hear(0, 0, 2);
        x.hide(0, 1);
        x.keep();
        row("counts", counts(x), 4, 3, 12, 2, 3, 1, FOUR.length());
        row("no such", all(x.count(-1), x.count(7), x.count(LEAST), x.count(MOST)), BAD, BAD, BAD, BAD);
    }

    /** The document's list of answers has BAD ahead of NO, NONE and FULL. */
    private static void badIsAheadOfAll() {
        ShakenParcels x = new ShakenParcels();
        x.hear(0, 1, 3);
        row("none is left", all(x.likely(2, 0, 0), x.likely(0, 4, 0), x.likely(0, 0, 2), x.guess(2, 0), x.guess(0, 3), x.next(2), x.few(2), x.solved(2)),
                BAD, BAD, BAD, BAD, BAD, BAD, BAD, BAD);
        row("not so many worlds", all(x.world(99, 2), x.world(99, 0)), BAD, NONE);
        row("of unlike numbers", all(x.change(0, 2), x.change(1, 1), x.change(0, 1)), BAD, BAD, NO);
    }
}
