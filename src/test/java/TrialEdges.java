/** Edges of what is done: promises 10 to 14. */
final class TrialEdges {
    private static final int BAD = Edges.BAD, NO = Edges.NO, FULL = Edges.FULL, NONE = Edges.NONE, LEAST = Edges.LEAST, MOST = Edges.MOST;
    private static final String SUCH_AS_THERE_ARE = "BAD: a number is none that is told (THINGS, PARCELS, SORTS: such as there are).";
    private static final String TWELVE = "Both are ANSWERS, one behind the other (12 at most).";
    private static final String EIGHT_BACK = "UNDONE is the latest of these four (the last 8 can be).";

    private TrialEdges() { }

    static void tell(Edges e) {
        attempt(e);
        attemptRefused(e);
        hear(e);
        hearRefused(e);
        change(e);
        changeRefused(e);
        hide(e);
        undo(e);
        undoIsLimited(e);
    }

    private static long[] all(long... got) {
        return got;
    }

    /** The first tree with some answers, all alike. */
    private static ShakenParcels withAnswers(int many) {
        ShakenParcels x = new ShakenParcels();
        for (int i = 0; i < many; i++) {
            x.attempt(0, 3);
        }
        return x;
    }

    private static void attempt(Edges e) {
        String words = "TRIED is a trial whose answer is that of the truth (by WEIGH with what is put in falsely)";
        e.edge(10, "TRIED: the answer.", "each sort of each parcel", due -> {
            ShakenParcels x = new ShakenParcels();
            due.row("parcel 0", all(x.attempt(0, 0), x.attempt(0, 1), x.attempt(0, 2), x.attempt(0, 3)), 3, 2, 1, 0);
            due.row("parcel 1", all(x.attempt(1, 0), x.attempt(1, 1), x.attempt(1, 2), x.attempt(1, 3)), 7, 0, 1, 0);
            due.row("all are so", all(x.count(3), x.left(), x.judge()), 8, 1, NONE);
        });
        e.edge(10, words, "the false weight is weighed ahead of the cut", due -> {
            ShakenParcels x = new ShakenParcels();
            // the box of 1 and the thing of 5
            due.row("6 and 1, and 2, and 9 by 2", all(x.hide(0, 1), x.attempt(0, 0), x.hide(0, 2), x.attempt(0, 0), x.hide(0, 9), x.attempt(0, 0)), 0, 3, 1, 4, 2, 7);
        });
        e.edge(10, words, "by WEIGH alone, in its parcel alone", due -> {
            ShakenParcels x = new ShakenParcels();
            x.hide(0, 9);
            due.row("other sorts", all(x.attempt(0, 1), x.attempt(0, 2), x.attempt(0, 3), x.attempt(1, 0)), 2, 1, 0, 7);
        });
        e.edge(10, words, "the heaviest that can be", due -> {
            ShakenParcels x = Checks.laid("t20,0,0,1;t20,0,0,1;p9,0,2;i0,0;i0,1;");
            x.hide(0, 9);
            due.row("58", all(x.attempt(0, 0), x.left(), x.judge()), 58, 0, 0);
        });
        e.edge(10, words, "the truth as it is now", due -> {
            ShakenParcels x = Checks.laid(Edges.FOUR);
            due.row("changed", all(x.attempt(0, 0), x.change(0, 1), x.attempt(0, 0), x.undo(), x.undo(), x.attempt(0, 0)), 2, 2, 3, 2, 1, 2);
        });
    }

    private static void attemptRefused(Edges e) {
        e.edge(10, TWELVE, "the 12th comes, the 13th is FULL", due -> {
            ShakenParcels x = withAnswers(11);
            due.row("from 11 on", all(x.attempt(0, 1), x.count(3), x.attempt(0, 1), x.attempt(1, 0), x.count(3), x.count(4)), 2, 12, FULL, FULL, 12, 8);
        });
        e.edge(10, "BAD; FULL.", "BAD is ahead of FULL", due -> {
            ShakenParcels x = withAnswers(12);
            due.row("full", all(x.attempt(2, 0), x.attempt(-1, 0), x.attempt(0, 4), x.attempt(0, -1), x.attempt(0, 0)), BAD, BAD, BAD, BAD, FULL);
        });
        e.edge(10, "BAD; FULL.", "what is refused is no answer", due -> {
            ShakenParcels x = new ShakenParcels();
            due.row("none", all(x.attempt(2, 0), x.attempt(0, 4), x.count(3), x.count(4), x.seconds(), x.undo()), BAD, BAD, 0, 0, 0, NO);
        });
        e.edge(10, SUCH_AS_THERE_ARE, "parcels that are not there", due -> {
            ShakenParcels x = new ShakenParcels();
            due.row("p", all(x.attempt(-1, 0), x.attempt(2, 0), x.attempt(3, 0), x.attempt(LEAST, 0), x.attempt(MOST, 0)), BAD, BAD, BAD, BAD, BAD);
        });
        e.edge(10, SUCH_AS_THERE_ARE, "sorts that are not there", due -> {
            ShakenParcels x = new ShakenParcels();
            due.row("sort", all(x.attempt(0, -1), x.attempt(0, 4), x.attempt(0, LEAST), x.attempt(0, MOST)), BAD, BAD, BAD, BAD);
        });
    }

    private static void hear(Edges e) {
        e.edge(11, "HEARD (an answer of 0 to 99)", "0 and 99 are heard, -1 and 100 are BAD", due -> {
            ShakenParcels x = new ShakenParcels();
            due.row("answers", all(x.hear(0, 0, -1), x.hear(0, 0, 100), x.count(3), x.hear(0, 0, 0), x.hear(0, 0, 99)), BAD, BAD, 0, 1, 2);
            due.row("far ones", all(x.hear(0, 0, LEAST), x.hear(0, 0, MOST), x.hear(0, 0, 256), x.count(3)), BAD, BAD, BAD, 2);
        });
        e.edge(11, "HEARD is a trial of whatever answer.", "one that can not be, of each sort", due -> {
            for (int sort = 0; sort < 4; sort++) {
                ShakenParcels x = new ShakenParcels();
                due.row("sort " + sort, all(x.hear(1, sort, 99), x.left(), x.judge()), 1, 0, 0);
            }
        });
        e.edge(11, "HEARD is a trial of whatever answer.", "neither the truth nor a false weight matters", due -> {
            ShakenParcels x = new ShakenParcels();
            x.hide(0, 9);
            due.row("what is not so in truth", all(x.hear(0, 1, 1), x.left(), x.sure(0, false), x.parcel(0, 3)), 1, 3, 2, 4);
        });
        e.edge(11, "how many ANSWERS.", "those that were TRIED, too", due -> {
            ShakenParcels x = withAnswers(2);
            x.hide(0, 1);
            due.row("3, 4", all(x.hear(0, 0, 3), x.hear(0, 0, 3), x.count(3)), 3, 4, 4);
        });
    }

    private static void hearRefused(Edges e) {
        e.edge(11, TWELVE, "the 12th comes, the 13th is FULL", due -> {
            ShakenParcels x = withAnswers(11);
            due.row("from 11 on", all(x.hear(0, 3, 0), x.hear(0, 3, 0), x.count(3), x.count(4)), 12, FULL, 12, 8);
        });
        e.edge(11, TWELVE, "one that is undone makes room", due -> {
            ShakenParcels x = withAnswers(12);
            due.row("again", all(x.hear(0, 3, 0), x.undo(), x.count(3), x.hear(0, 3, 0), x.hear(0, 3, 0)), FULL, 7, 11, 12, FULL);
        });
        e.edge(11, "BAD; FULL.", "BAD is ahead of FULL", due -> {
            ShakenParcels x = withAnswers(12);
            due.row("full", all(x.hear(2, 0, 0), x.hear(0, 4, 0), x.hear(0, 0, 100), x.hear(0, 0, -1), x.hear(0, 0, 99)), BAD, BAD, BAD, BAD, FULL);
        });
        e.edge(11, "BAD; FULL.", "what is refused is no answer", due -> {
            ShakenParcels x = new ShakenParcels();
            due.row("none", all(x.hear(2, 0, 0), x.hear(0, 4, 0), x.hear(0, 0, 100), x.count(3), x.count(4), x.left(), x.undo()), BAD, BAD, BAD, 0, 0, 12, NO);
        });
        e.edge(11, SUCH_AS_THERE_ARE, "parcels and sorts that are not there", due -> {
            ShakenParcels x = new ShakenParcels();
            due.row("p", all(x.hear(-1, 0, 0), x.hear(2, 0, 0), x.hear(LEAST, 0, 0), x.hear(MOST, 0, 0)), BAD, BAD, BAD, BAD);
            due.row("sort", all(x.hear(0, -1, 0), x.hear(0, 4, 0), x.hear(0, LEAST, 0), x.hear(0, MOST, 0)), BAD, BAD, BAD, BAD);
        });
    }

    private static void change(Edges e) {
        String words = "Two PARCELS of as many THINGS can be CHANGED: in truth what is in one is in the other one then;";
        e.edge(12, words, "of one thing", due -> {
            ShakenParcels x = Checks.laid(Edges.FOUR);
            due.row("0 and 1", all(x.change(0, 1), x.parcel(0, 3), x.parcel(1, 3), x.parcel(2, 3)), 2, 2, 1, 12);
        });
        e.edge(12, words, "of two things, the first and the last parcel", due -> {
            ShakenParcels x = Checks.laid(Edges.EIGHT);
            due.row("0 and 3", all(x.change(0, 3), x.parcel(0, 3), x.parcel(3, 3), x.parcel(1, 3), x.parcel(2, 3)), 192, 192, 3, 12, 48);
            due.row("back", all(x.change(3, 0), x.parcel(0, 3), x.parcel(3, 3)), 192, 3, 192);
        });
        e.edge(12, words, "boxes, children, false weights, answers stay", due -> {
            ShakenParcels x = Checks.laid(Edges.FOUR);
            x.hide(0, 5);
            x.attempt(0, 0);
            due.due("change", x.change(0, 1), 2);
            due.row("0", all(x.parcel(0, 0), x.parcel(0, 1), x.parcel(0, 2), x.parcel(0, 4)), 1, 0, 1, 5);
            due.row("1", all(x.parcel(1, 0), x.parcel(1, 1), x.parcel(1, 2), x.parcel(1, 4)), 2, 1, 1, 0);
            due.row("answers", all(x.count(3), x.seconds()), 1, 10);
        });
        e.edge(12, "CHANGED: what is in PARCEL p then, as bits.", "of p, not of q", due -> {
            ShakenParcels x = Checks.laid(Edges.FOUR);
            due.row("both ways", all(x.change(1, 0), x.change(1, 0), x.change(0, 1)), 1, 2, 2);
        });
        e.edge(12, "CHANGED: what is in PARCEL p then, as bits.", "with 12 answers as well", due -> {
            ShakenParcels x = Checks.laid(Edges.FOUR);
            for (int i = 0; i < 12; i++) {
                x.attempt(2, 3);
            }
            due.row("full of answers", all(x.attempt(0, 0), x.change(0, 1), x.count(3), x.count(4)), FULL, 2, 12, 8);
        });
    }

    private static void changeRefused(Edges e) {
        e.edge(12, "BAD (alike, too)", "a parcel with itself", due -> {
            ShakenParcels x = Checks.laid(Edges.FOUR);
            due.row("alike", all(x.change(0, 0), x.change(1, 1), x.change(2, 2), x.count(4)), BAD, BAD, BAD, 0);
        });
        e.edge(12, "BAD (alike, too)", "parcels that are not there", due -> {
            ShakenParcels x = Checks.laid(Edges.FOUR);
            due.row("p", all(x.change(-1, 0), x.change(3, 0), x.change(LEAST, 0), x.change(MOST, 0)), BAD, BAD, BAD, BAD);
            due.row("q", all(x.change(0, -1), x.change(0, 3), x.change(0, LEAST), x.change(0, MOST)), BAD, BAD, BAD, BAD);
            due.row("both", all(x.change(3, 3), x.change(-1, -1), x.change(4, 5), x.count(4)), BAD, BAD, BAD, 0);
        });
        e.edge(12, "NO: of unlike numbers of THINGS", "one and two", due -> {
            ShakenParcels x = Checks.laid(Edges.FOUR);
            due.row("unlike", all(x.change(0, 2), x.change(2, 0), x.change(1, 2), x.count(4), x.parcel(0, 3), x.parcel(2, 3)), NO, NO, NO, 0, 1, 12);
        });
        e.edge(12, "NO: of unlike numbers of THINGS, no WORLD then.", "just fair, just not fair", due -> {
            // 3 and 0 for one child, 1 for the other one; with 1 and 2 changed it is 4 and 0
            String text = "t1,0,3,1;t1,0,0,1;t1,0,1,1;p0,0,1;p0,0,1;p0,1,1;i0,0;i1,1;i2,2;";
            ShakenParcels x = Checks.laid(text + "d4;");
            due.row("4 apart of 4", all(x.change(1, 2), x.parcel(1, 3), x.parcel(2, 3)), 4, 4, 2);
            ShakenParcels y = Checks.laid(text + "d3;");
            due.row("4 apart of 3", all(y.change(1, 2), y.parcel(1, 3), y.parcel(2, 3), y.count(4), y.undo()), NO, 2, 4, 0, NO);
            due.row("2 apart of 3", all(y.change(0, 2), y.parcel(0, 3)), 4, 4);
        });
        e.edge(12, "NO: of unlike numbers of THINGS, no WORLD then.", "a world that is not LEFT is still one", due -> {
            ShakenParcels x = Checks.laid(Edges.FOUR);
            x.attempt(0, 0);
            due.row("changed", all(x.left(), x.change(0, 1), x.left(), x.solved(0)), 3, 2, 3, NONE);
        });
        e.edge(12, "Of several the first", "BAD is ahead of NO", due -> {
            ShakenParcels x = new ShakenParcels();
            due.row("both", all(x.change(0, 2), x.change(1, -1), x.change(0, 1)), BAD, BAD, NO);
        });
    }

    private static void hide(Edges e) {
        e.edge(13, "A false weight (0 to 9) is put in", "0 and 9 are, -1 and 10 are BAD", due -> {
            ShakenParcels x = new ShakenParcels();
            due.row("weights", all(x.hide(0, -1), x.hide(0, 10), x.count(4), x.hide(0, 9), x.hide(0, 0), x.count(4)), BAD, BAD, 0, 0, 9, 2);
            due.row("far ones", all(x.hide(0, LEAST), x.hide(0, MOST), x.parcel(0, 4)), BAD, BAD, 0);
        });
        e.edge(13, "which one was.", "at first 0, of each parcel its own", due -> {
            ShakenParcels x = new ShakenParcels();
            due.row("which", all(x.hide(0, 3), x.hide(0, 4), x.hide(1, 5), x.hide(1, 6), x.hide(0, 0), x.hide(0, 0)), 0, 3, 0, 5, 4, 0);
        });
        e.edge(13, "a false weight of 0 to 9 can be put into one (in place of the one that was).", "not besides it", due -> {
            ShakenParcels x = new ShakenParcels();
            x.hide(0, 8);
            x.hide(0, 2);
            due.row("6 and 2 by 2", all(x.parcel(0, 4), x.attempt(0, 0), x.hide(0, 0), x.attempt(0, 0)), 2, 4, 2, 3);
        });
        e.edge(13, "a false weight of 0 to 9 can be put into one (in place of the one that was).", "the same again can be undone as well", due -> {
            ShakenParcels x = new ShakenParcels();
            due.row("again", all(x.hide(0, 0), x.hide(0, 0), x.count(4), x.undo(), x.undo(), x.undo()), 0, 0, 2, 1, 0, NO);
        });
        e.edge(13, "which one was. BAD.", "parcels that are not there", due -> {
            ShakenParcels x = new ShakenParcels();
            due.row("p", all(x.hide(-1, 0), x.hide(2, 0), x.hide(4, 0), x.hide(LEAST, 0), x.hide(MOST, 0), x.count(4)), BAD, BAD, BAD, BAD, BAD, 0);
            ShakenParcels y = Checks.laid(Edges.EIGHT);
            due.row("the last of four", all(y.hide(3, 9), y.parcel(3, 4), y.hide(4, 9)), 0, 9, BAD);
        });
    }

    private static void undo(Edges e) {
        e.edge(14, EIGHT_BACK, "what was TRIED", due -> {
            ShakenParcels x = new ShakenParcels();
            due.row("tried", all(x.attempt(1, 0), x.left(), x.undo(), x.count(3), x.left(), x.seconds(), x.risk(0)), 7, 4, 0, 0, 12, 0, 0);
        });
        e.edge(14, EIGHT_BACK, "what was HEARD", due -> {
            ShakenParcels x = new ShakenParcels();
            due.row("heard", all(x.hear(1, 0, 99), x.left(), x.judge(), x.undo(), x.count(3), x.left(), x.judge()), 1, 0, 0, 0, 0, 12, NONE);
        });
        e.edge(14, EIGHT_BACK, "what was CHANGED", due -> {
            ShakenParcels x = Checks.laid(Edges.FOUR);
            due.row("changed", all(x.change(0, 1), x.undo(), x.parcel(0, 3), x.parcel(1, 3)), 2, 0, 1, 2);
        });
        e.edge(14, EIGHT_BACK, "a false weight: the one that was is there again", due -> {
            ShakenParcels x = new ShakenParcels();
            due.row("put in", all(x.hide(0, 4), x.hide(0, 7), x.undo(), x.parcel(0, 4), x.undo(), x.parcel(0, 4)), 0, 4, 1, 4, 0, 0);
        });
        e.edge(14, EIGHT_BACK, "the latest first, among all four", due -> {
            ShakenParcels x = Checks.laid(Edges.FOUR);
            x.attempt(0, 0);
            x.change(0, 1);
            x.hear(0, 0, 99);
            x.hide(1, 7);
            due.row("hidden", all(x.undo(), x.parcel(1, 4), x.count(3), x.parcel(0, 3)), 3, 0, 2, 2);
            due.row("heard", all(x.undo(), x.count(3), x.parcel(0, 3), x.left()), 2, 1, 2, 3);
            due.row("changed", all(x.undo(), x.count(3), x.parcel(0, 3)), 1, 1, 1);
            due.row("tried", all(x.undo(), x.count(3), x.left(), x.undo()), 0, 0, 12, NO);
        });
    }

    private static void undoIsLimited(Edges e) {
        e.edge(14, EIGHT_BACK, "8 of 8, 8 of 9", due -> {
            ShakenParcels x = new ShakenParcels();
            for (int weight = 1; weight <= 8; weight++) {
                x.hide(0, weight);
            }
            due.due("8", x.count(4), 8);
            x.hide(0, 9);
            due.due("still 8", x.count(4), 8);
            for (int more = 7; more >= 0; more--) {
                due.row("undo to " + more, all(x.undo(), x.count(4), x.parcel(0, 4)), more, more, more + 1);
            }
            due.row("the first of 9 stays", all(x.undo(), x.parcel(0, 4)), NO, 1);
        });
        e.edge(14, EIGHT_BACK, "8 again behind many, then anew", due -> {
            ShakenParcels x = new ShakenParcels();
            for (int i = 0; i < 30; i++) {
                x.hide(0, i % 10);
            }
            for (int i = 28; i >= 21; i--) {
                due.row("undo", all(x.undo(), x.parcel(0, 4)), i - 21, i % 10);
            }
            due.row("anew", all(x.undo(), x.hide(1, 1), x.count(4), x.undo(), x.parcel(1, 4), x.undo()), NO, 0, 1, 0, 0, NO);
        });
        e.edge(14, "UNDONE: how many more can be. NO.", "nothing was done", due -> {
            ShakenParcels x = new ShakenParcels();
            due.row("none", all(x.undo(), x.undo(), x.count(4), x.left()), NO, NO, 0, 12);
        });
        e.edge(14, "UNDONE: how many more can be. NO.", "writing, keeping, asking are none of these four", due -> {
            ShakenParcels x = new ShakenParcels();
            x.write('t');
            x.wipe();
            x.keep();
            x.lay();
            x.left();
            x.morning(1, 0);
            x.solved(0);
            due.row("none", all(x.count(4), x.undo()), 0, NO);
        });
        e.edge(14, "UNDONE: how many more can be. NO.", "what is undone is gone", due -> {
            ShakenParcels x = new ShakenParcels();
            due.row("gone", all(x.attempt(1, 0), x.undo(), x.hide(0, 1), x.undo(), x.count(3), x.parcel(0, 4), x.undo()), 7, 0, 0, 0, 0, 0, NO);
        });
    }
}
