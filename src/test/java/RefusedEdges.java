import java.util.ArrayList;
import java.util.List;

/** What is refused, and what is only asked, changes nothing: each call is held against an object that did not get it. */
final class RefusedEdges {
    private static final int BAD = Edges.BAD, NO = Edges.NO, FULL = Edges.FULL, NONE = Edges.NONE;
    private static final String NOTHING = "nothing changes then.";

    interface Call {
        long on(ShakenParcels x);
    }

    private RefusedEdges() { }

    static void tell(Edges e) {
        bad(e);
        badQuestions(e);
        notAsThingsStand(e);
        full(e);
        none(e);
        questions(e);
        moreQuestions(e);
    }

    /** All that can be full is, none is LEFT, and what is written can not be laid. */
    private static ShakenParcels busy() {
        ShakenParcels x = Checks.laid(Edges.FOUR);
        Checks.write(x, "z".repeat(200 - Edges.FOUR.length()));
        x.hide(1, 4);
        x.attempt(2, 1);
        x.keep();
        x.change(0, 1);
        x.attempt(0, 0);
        x.keep();
        for (int i = 2; i < 9; i++) {
            x.attempt(2, 2);
        }
        x.hide(0, 5);
        x.change(1, 0);
        x.hear(0, 0, 99);
        x.attempt(0, 0);
        x.hear(1, 3, 0);
        return x;
    }

    /** All that can be seen of it; what can be undone and what is kept come to light one by one. */
    private static List<Long> seen(ShakenParcels x) {
        List<Long> list = new ArrayList<>();
        for (int what = 0; what <= 6; what++) {
            list.add((long) x.count(what));
        }
        for (int p = 0; p < 3; p++) {
            for (int what = 0; what <= 4; what++) {
                list.add((long) x.parcel(p, what));
            }
        }
        addState(list, x);
        for (int i = 0; i <= 8; i++) {
            list.add((long) x.undo());
            addState(list, x);
        }
        for (int i = 0; i <= 2; i++) {
            list.add((long) x.back());
            addState(list, x);
        }
        list.add((long) x.fault());
        list.add((long) x.wipe());
        list.add((long) x.lay());
        return list;
    }

    private static void addState(List<Long> list, ShakenParcels x) {
        list.add((long) x.count(3));
        list.add((long) x.count(4));
        list.add((long) x.left());
        list.add((long) x.judge());
        list.add((long) x.seconds());
        list.add((long) x.parcel(0, 3));
        list.add((long) x.parcel(0, 4));
        list.add((long) x.parcel(1, 4));
    }

    private static void same(Edges e, int promise, String words, String name, Call call, long want) {
        e.edge(promise, words, name, due -> {
            ShakenParcels x = busy();
            due.due(name, call.on(x), want);
            List<Long> got = seen(x);
            List<Long> all = seen(busy());
            due.due("how much is seen", got.size(), all.size());
            for (int i = 0; i < all.size(); i++) {
                due.due("seen [" + i + "]", got.get(i), all.get(i));
            }
        });
    }

    private static void bad(Edges e) {
        same(e, 2, NOTHING, "write(31)", x -> x.write(31), BAD);
        same(e, 2, NOTHING, "write(127)", x -> x.write(127), BAD);
        same(e, 10, NOTHING, "attempt(3, 0)", x -> x.attempt(3, 0), BAD);
        same(e, 10, NOTHING, "attempt(0, 4)", x -> x.attempt(0, 4), BAD);
        same(e, 11, NOTHING, "hear(3, 0, 0)", x -> x.hear(3, 0, 0), BAD);
        same(e, 11, NOTHING, "hear(0, 4, 0)", x -> x.hear(0, 4, 0), BAD);
        same(e, 11, NOTHING, "hear(0, 0, 100)", x -> x.hear(0, 0, 100), BAD);
        same(e, 12, NOTHING, "change(0, 0)", x -> x.change(0, 0), BAD);
        same(e, 12, NOTHING, "change(0, 3)", x -> x.change(0, 3), BAD);
        same(e, 13, NOTHING, "hide(0, 10)", x -> x.hide(0, 10), BAD);
        same(e, 13, NOTHING, "hide(3, 0)", x -> x.hide(3, 0), BAD);
    }

    private static void badQuestions(Edges e) {
        same(e, 6, NOTHING, "thing(4, 0)", x -> x.thing(4, 0), BAD);
        same(e, 7, NOTHING, "parcel(3, 0)", x -> x.parcel(3, 0), BAD);
        same(e, 8, NOTHING, "world(-1, 0)", x -> x.world(-1, 0), BAD);
        same(e, 9, NOTHING, "answer(0, 0, 16)", x -> x.answer(0, 0, 16), BAD);
        same(e, 16, NOTHING, "likely(0, 0, 2)", x -> x.likely(0, 0, 2), BAD);
        same(e, 17, NOTHING, "sure(3, true)", x -> x.sure(3, true), BAD);
        same(e, 19, NOTHING, "guess(0, 3)", x -> x.guess(0, 3), BAD);
        same(e, 20, NOTHING, "next(2)", x -> x.next(2), BAD);
        same(e, 21, NOTHING, "few(3)", x -> x.few(3), BAD);
        same(e, 22, NOTHING, "solved(2)", x -> x.solved(2), BAD);
        same(e, 23, NOTHING, "risk(2)", x -> x.risk(2), BAD);
        same(e, 25, NOTHING, "misled(0, 2)", x -> x.misled(0, 2), BAD);
        same(e, 26, NOTHING, "more(3)", x -> x.more(3), BAD);
        same(e, 27, NOTHING, "heavier(1, 1)", x -> x.heavier(1, 1), BAD);
        same(e, 28, NOTHING, "morning(10000, 0)", x -> x.morning(10000, 0), BAD);
        same(e, 31, NOTHING, "count(7)", x -> x.count(7), BAD);
    }

    private static void notAsThingsStand(Edges e) {
        same(e, 5, NOTHING, "lay()", x -> x.lay(), NO);
        same(e, 12, NOTHING, "change(0, 2)", x -> x.change(0, 2), NO);
        e.edge(14, NOTHING, "undo()", due -> {
            ShakenParcels x = Checks.laid(Edges.FOUR);
            x.keep();
            ShakenParcels y = Checks.laid(Edges.FOUR);
            y.keep();
            due.due("undo", x.undo(), NO);
            due.holds("all that is seen is as before", seen(x).equals(seen(y)));
        });
        e.edge(30, NOTHING, "back()", due -> {
            ShakenParcels x = Checks.laid(Edges.FOUR);
            x.hear(0, 0, 2);
            ShakenParcels y = Checks.laid(Edges.FOUR);
            y.hear(0, 0, 2);
            due.due("back", x.back(), NO);
            due.holds("all that is seen is as before", seen(x).equals(seen(y)));
        });
    }

    private static void full(Edges e) {
        same(e, 2, NOTHING, "write(';')", x -> x.write(';'), FULL);
        same(e, 10, NOTHING, "attempt(0, 1)", x -> x.attempt(0, 1), FULL);
        same(e, 11, NOTHING, "hear(0, 1, 1)", x -> x.hear(0, 1, 1), FULL);
        same(e, 29, NOTHING, "keep()", x -> x.keep(), FULL);
    }

    private static void none(Edges e) {
        String words = "NONE: there is none.";
        same(e, 8, words, "world(12, 0)", x -> x.world(12, 0), NONE);
        same(e, 16, words, "likely(0, 0, 0)", x -> x.likely(0, 0, 0), NONE);
        same(e, 19, words, "guess(0, 0)", x -> x.guess(0, 0), NONE);
        same(e, 20, words, "next(0)", x -> x.next(0), NONE);
        same(e, 21, words, "few(0)", x -> x.few(0), NONE);
        same(e, 22, words, "solved(0)", x -> x.solved(0), NONE);
        e.edge(6, words, "thing(1, 4)", due -> due.due("in no parcel", new ShakenParcels().thing(1, 4), NONE));
        e.edge(4, words, "fault()", due -> due.due("no fault", new ShakenParcels().fault(), NONE));
        e.edge(18, words, "judge()", due -> due.due("no answers", new ShakenParcels().judge(), NONE));
        e.edge(28, words, "morning(0, 0)", due -> due.due("twins", Checks.laid(Edges.TWINS).morning(0, 0), NONE));
    }

    private static void questions(Edges e) {
        same(e, 4, "FAULT. NONE.", "asking for it changes nothing", x -> x.fault(), Edges.FOUR.length());
        same(e, 6, "CHANCE (3)", "asking for it changes nothing", x -> x.thing(3, 0), 4);
        same(e, 7, "CHILD (1)", "asking for it changes nothing", x -> x.parcel(2, 2), 2);
        same(e, 8, "as bits.", "asking for it changes nothing", x -> x.world(11, 2), 3);
        same(e, 9, "The answer of a trial", "asking for it changes nothing", x -> x.answer(2, 0, 15), 13);
        same(e, 15, "LEFT: how many.", "asking for it changes nothing", x -> x.left(), 0);
        same(e, 17, "NEVER (true), as bits.", "asking for it changes nothing", x -> x.sure(0, true), 15);
        same(e, 18, "JUDGED. NONE.", "asking for it changes nothing", x -> x.judge(), 9);
        same(e, 23, "RISK: above (part = 0)", "asking for it changes nothing", x -> x.risk(1), 1);
        same(e, 24, "How many seconds all ANSWERS took.", "asking for it changes nothing", x -> x.seconds(), 120);
        same(e, 25, "MISLED: the weight (what = 0)", "asking for it changes nothing", x -> x.misled(0, 1), 0);
        same(e, 26, "MORE: more (what = 0)", "asking for it changes nothing", x -> x.more(0), 0);
        same(e, 27, "HEAVIER.", "asking for it changes nothing", x -> x.heavier(0, 1), 0);
        same(e, 28, "seconds (1).", "asking for it changes nothing", x -> x.morning(3, 1), 20);
        same(e, 31, "5 KEPT", "asking for it changes nothing", x -> x.count(5), 2);
    }

    /** Those that work on the worlds LEFT, while some are. */
    private static void moreQuestions(Edges e) {
        asked(e, 16, "LIKELY: above (part = 0)", x -> x.likely(1, 1, 1), 3);
        asked(e, 17, "SURE (never = false)", x -> x.sure(0, false), 1);
        asked(e, 19, "GUESS: what is in it (what = 0)", x -> x.guess(1, 0), 2);
        asked(e, 20, "NEXT: the trial (what = 0)", x -> x.next(0), 4);
        asked(e, 21, "FEW.", x -> x.few(1), 1);
        asked(e, 22, "SOLVED: how many trials (what = 0)", x -> x.solved(0), 1);
        asked(e, 25, "how many (1).", x -> x.misled(1, 1), 1);
        asked(e, 26, "as much (1)", x -> x.more(1), 0);
        asked(e, 27, "HEAVIER. BAD", x -> x.heavier(2, 0), 3);
    }

    private static void asked(Edges e, int promise, String words, Call call, long want) {
        e.edge(promise, words, "asking for it changes nothing while some are LEFT", due -> {
            ShakenParcels x = Checks.laid(Edges.FOUR);
            x.attempt(0, 0);
            ShakenParcels y = Checks.laid(Edges.FOUR);
            y.attempt(0, 0);
            due.due("asked", call.on(x), want);
            due.due("asked again", call.on(x), want);
            due.holds("all that is seen is as before", seen(x).equals(seen(y)));
        });
    }
}
