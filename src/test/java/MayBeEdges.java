/** Edges of what may be: promises 15 to 19. */
final class MayBeEdges {
    private static final int BAD = Edges.BAD, NONE = Edges.NONE, LEAST = Edges.LEAST, MOST = Edges.MOST;
    private static final String SUCH_AS_THERE_ARE = "BAD: a number is none that is told (THINGS, PARCELS, SORTS: such as there are).";
    /** Chances 2, 3, 5 in two parcels: the worlds weigh 6, 10, 6, 15, 10, 15. */
    private static final String CHANCES = "t1,0,0,2;t2,0,0,3;t3,0,0,5;p0,0,1;p0,0,1;i0,0;i1,1;";

    private MayBeEdges() { }

    static void tell(Edges e) {
        left(e);
        likely(e);
        likelyRefused(e);
        sure(e);
        judge(e);
        guess(e);
        guessRefused(e);
    }

    private static long[] all(long... got) {
        return got;
    }

    private static ShakenParcels noneLeft() {
        ShakenParcels x = new ShakenParcels();
        x.hear(0, 0, 99);
        return x;
    }

    private static void left(Edges e) {
        String words = "LEFT are the WORLDS (without what is put in falsely) by which all ANSWERS are so.";
        e.edge(15, "LEFT: how many.", "all, some, one, none", due -> {
            ShakenParcels x = new ShakenParcels();
            due.row("left", all(x.left(), x.attempt(1, 0), x.left(), x.attempt(0, 1), x.left(), x.hear(0, 1, 1), x.left()), 12, 7, 4, 2, 1, 3, 0);
        });
        e.edge(15, words, "a false weight is in no world", due -> {
            ShakenParcels x = new ShakenParcels();
            x.hide(0, 4);
            // 1 and 5 and 4 by 2, as if thing 1 were in it
            due.row("misled", all(x.attempt(0, 0), x.left(), x.sure(0, false)), 5, 3, 2);
        });
        e.edge(15, words, "what is put in or changed later leaves answers as they were", due -> {
            ShakenParcels x = Checks.laid(Edges.FOUR);
            due.row("later", all(x.attempt(0, 0), x.left(), x.hide(0, 9), x.left(), x.change(0, 1), x.left()), 2, 3, 0, 3, 2, 3);
        });
        e.edge(15, words, "all of them, the first as well as the last", due -> {
            ShakenParcels x = new ShakenParcels();
            x.hear(0, 1, 99);
            for (int i = 0; i < 10; i++) {
                x.attempt(0, 0);
            }
            due.row("the first", all(x.left(), x.attempt(0, 0), x.left()), 0, 3, 0);
            ShakenParcels y = new ShakenParcels();
            for (int i = 0; i < 11; i++) {
                y.attempt(0, 0);
            }
            due.row("the last", all(y.left(), y.hear(0, 0, 99), y.left()), 6, 12, 0);
        });
    }

    private static void likely(Edges e) {
        String words = "LIKELY: what those LEFT weigh in which THING t is in PARCEL p, by what all LEFT weigh, in lowest terms;";
        e.edge(16, "It weighs what the CHANCES of all THINGS that are in PARCELS make, multiplied.", "those in the other parcels, too", due -> {
            ShakenParcels x = Checks.laid(CHANCES);
            due.row("16 of 62", all(x.likely(0, 0, 0), x.likely(0, 0, 1)), 8, 31);
            due.row("21 of 62", all(x.likely(0, 1, 0), x.likely(0, 1, 1)), 21, 62);
            due.row("25 of 62", all(x.likely(1, 2, 0), x.likely(1, 2, 1)), 25, 62);
        });
        e.edge(16, "It weighs what the CHANCES of all THINGS that are in PARCELS make, multiplied.", "those in no parcel do not count", due -> {
            ShakenParcels x = Checks.laid("t1,0,0,1;t1,0,0,9;p0,0,1;i0,0;");
            due.row("1 of 10", all(x.likely(0, 0, 0), x.likely(0, 0, 1)), 1, 10);
        });
        e.edge(16, words, "in lowest terms", due -> {
            ShakenParcels x = Checks.laid("t1,0,0,6;t1,0,0,9;p0,0,1;i0,0;");
            due.row("6 of 15", all(x.likely(0, 0, 0), x.likely(0, 0, 1)), 2, 5);
            due.row("9 of 15", all(x.likely(0, 1, 0), x.likely(0, 1, 1)), 3, 5);
        });
        e.edge(16, words, "never is 0 by 1, sure is 1 by 1", due -> {
            ShakenParcels x = Checks.laid(CHANCES);
            x.attempt(0, 0);
            due.row("never", all(x.likely(0, 1, 0), x.likely(0, 1, 1)), 0, 1);
            due.row("sure", all(x.likely(0, 0, 0), x.likely(0, 0, 1)), 1, 1);
            due.row("6 of 16 of those LEFT", all(x.likely(1, 1, 0), x.likely(1, 1, 1)), 3, 8);
        });
        e.edge(16, words, "more together than an int holds", due -> {
            // 2520 worlds of 9 multiplied 8 times each
            ShakenParcels x = Checks.laid(Edges.EIGHT);
            due.row("2 of 8 places", all(x.likely(3, 7, 0), x.likely(3, 7, 1)), 1, 4);
            ShakenParcels y = Checks.laid("t1,0,0,9;".repeat(7) + "t1,0,0,8;" + "p0,0,2;p0,0,2;p0,0,1;p0,1,2;i0,0;i0,1;i1,2;i1,3;i2,4;i3,5;i3,6;");
            due.row("5040 worlds", all(y.likely(2, 7, 0), y.likely(2, 7, 1)), 8, 65);
        });
        e.edge(16, "LIKELY: above (part = 0), below (1).", "0 and 1, no other", due -> {
            ShakenParcels x = new ShakenParcels();
            due.row("parts", all(x.likely(0, 0, -1), x.likely(0, 0, 0), x.likely(0, 0, 1), x.likely(0, 0, 2), x.likely(0, 0, LEAST), x.likely(0, 0, MOST)),
                    BAD, 22, 75, BAD, BAD, BAD);
        });
    }

    private static void likelyRefused(Edges e) {
        e.edge(16, "in lowest terms; none (none is LEFT).", "of each part", due -> {
            ShakenParcels x = noneLeft();
            due.row("none", all(x.likely(0, 0, 0), x.likely(0, 0, 1), x.likely(1, 3, 0)), NONE, NONE, NONE);
        });
        e.edge(16, "NONE; BAD.", "BAD is ahead of NONE", due -> {
            ShakenParcels x = noneLeft();
            due.row("both", all(x.likely(2, 0, 0), x.likely(-1, 0, 0), x.likely(0, 4, 0), x.likely(0, -1, 0), x.likely(0, 0, 2), x.likely(0, 0, -1)),
                    BAD, BAD, BAD, BAD, BAD, BAD);
        });
        e.edge(16, SUCH_AS_THERE_ARE, "parcels and things that are not there", due -> {
            ShakenParcels x = new ShakenParcels();
            due.row("p", all(x.likely(-1, 0, 0), x.likely(2, 0, 0), x.likely(LEAST, 0, 0), x.likely(MOST, 0, 0)), BAD, BAD, BAD, BAD);
            due.row("t", all(x.likely(0, -1, 0), x.likely(0, 4, 0), x.likely(0, 32, 0), x.likely(0, LEAST, 0), x.likely(0, MOST, 0)), BAD, BAD, BAD, BAD, BAD);
        });
    }

    private static void sure(Edges e) {
        e.edge(17, "SURE: THINGS (bits) that are in PARCEL p in all LEFT;", "none at first, some, all", due -> {
            ShakenParcels x = new ShakenParcels();
            due.row("first", all(x.sure(0, false), x.sure(1, false)), 0, 0);
            x.attempt(1, 0);
            due.row("some", all(x.sure(0, false), x.sure(1, false)), 0, 8);
            x.attempt(0, 1);
            due.row("all", all(x.sure(0, false), x.sure(1, false)), 4, 9);
        });
        e.edge(17, "NEVER: in none", "none at first, some, all but what is in it", due -> {
            ShakenParcels x = new ShakenParcels();
            due.row("first", all(x.sure(0, true), x.sure(1, true)), 0, 0);
            x.attempt(1, 0);
            due.row("some", all(x.sure(0, true), x.sure(1, true)), 8, 2);
            x.attempt(0, 1);
            due.row("all", all(x.sure(0, true), x.sure(1, true)), 11, 6);
        });
        e.edge(17, "(all THINGS are both, if none is LEFT).", "all there are, not all there could be", due -> {
            ShakenParcels x = noneLeft();
            due.row("4 things", all(x.sure(0, false), x.sure(0, true), x.sure(1, false), x.sure(1, true)), 15, 15, 15, 15);
            ShakenParcels y = Checks.laid(Edges.EIGHT);
            y.hear(0, 0, 99);
            due.row("8 things", all(y.sure(3, false), y.sure(3, true)), 255, 255);
            ShakenParcels z = Checks.laid("t1,0,0,1;p0,0,1;i0,0;");
            z.hear(0, 0, 99);
            due.row("1 thing", all(z.sure(0, false), z.sure(0, true)), 1, 1);
        });
        e.edge(17, "SURE (never = false), NEVER (true), as bits.", "one world alone", due -> {
            ShakenParcels x = Checks.laid("t1,0,0,1;p0,0,1;i0,0;");
            due.row("one thing", all(x.sure(0, false), x.sure(0, true)), 1, 0);
        });
        e.edge(17, "BAD.", "parcels that are not there, of both", due -> {
            ShakenParcels x = new ShakenParcels();
            for (int i = 0; i < 2; i++) {
                boolean never = i == 1;
                due.row("p", all(x.sure(-1, never), x.sure(2, never), x.sure(4, never), x.sure(LEAST, never), x.sure(MOST, never)), BAD, BAD, BAD, BAD, BAD);
            }
            due.due("none is LEFT", noneLeft().sure(2, true), BAD);
        });
    }

    private static void judge(Edges e) {
        e.edge(18, "JUDGED: the first ANSWER behind which none is LEFT;", "the first of several", due -> {
            ShakenParcels x = new ShakenParcels();
            x.attempt(0, 1);
            x.hear(0, 1, 1);
            x.hear(0, 0, 99);
            x.hear(0, 0, 99);
            due.due("the second", x.judge(), 1);
        });
        e.edge(18, "JUDGED: the first ANSWER behind which none is LEFT;", "from the 1st, 0, to the 12th, 11", due -> {
            due.due("the 1st", noneLeft().judge(), 0);
            ShakenParcels x = new ShakenParcels();
            for (int i = 0; i < 11; i++) {
                x.attempt(0, 0);
            }
            due.row("the 12th", all(x.judge(), x.hear(0, 0, 99), x.judge()), NONE, 12, 11);
        });
        e.edge(18, "JUDGED: the first ANSWER behind which none is LEFT;", "that which can not be together with those ahead of it", due -> {
            ShakenParcels x = new ShakenParcels();
            // each of the three can be by itself, two of them can be, all can not
            due.row("heard", all(x.hear(0, 2, 1), x.judge(), x.hear(0, 1, 0), x.judge(), x.hear(0, 0, 3), x.left(), x.judge()), 1, NONE, 2, NONE, 3, 0, 2);
        });
        e.edge(18, "JUDGED: the first ANSWER behind which none is LEFT; none.", "no answers, or some are LEFT", due -> {
            ShakenParcels x = new ShakenParcels();
            due.row("none", all(x.judge(), x.attempt(0, 0), x.judge(), x.hear(0, 0, 99), x.judge(), x.undo(), x.judge()), NONE, 3, NONE, 2, 1, 1, NONE);
        });
    }

    private static void guess(Edges e) {
        String words = "GUESS of a PARCEL: what is in it (bits) in WORLDS LEFT that weigh most together, of several the lowest;";
        e.edge(19, words, "together: more than the heaviest world", due -> {
            // behind it the worlds weigh 32, 32, 24, 12, and the last two have thing 2 in parcel 0
            ShakenParcels x = Checks.laid("t3,0,0,8;t3,0,0,4;t1,0,0,3;p0,0,1;p0,0,1;i0,0;i1,1;");
            x.hear(1, 0, 3);
            due.row("36 of 100", all(x.left(), x.guess(0, 0), x.guess(0, 1), x.guess(0, 2)), 4, 4, 9, 25);
        });
        e.edge(19, words, "of several the lowest", due -> {
            ShakenParcels x = Checks.laid("t1,0,0,1;t1,0,0,2;t1,0,0,2;p0,0,1;i0,0;");
            due.row("2 of 5", all(x.guess(0, 0), x.guess(0, 1), x.guess(0, 2)), 2, 2, 5);
            ShakenParcels y = Checks.laid(Edges.EIGHT);
            due.row("1 of 28", all(y.guess(3, 0), y.guess(3, 1), y.guess(3, 2)), 3, 1, 28);
        });
        e.edge(19, words, "weight, not number", due -> {
            ShakenParcels x = Checks.laid("t1,0,0,1;t1,0,0,9;p0,0,1;i0,0;");
            due.row("9 of 10", all(x.guess(0, 0), x.guess(0, 1), x.guess(0, 2)), 2, 9, 10);
        });
        e.edge(19, words, "of those LEFT alone", due -> {
            ShakenParcels x = Checks.laid("t1,0,0,1;t2,0,0,9;p0,0,1;i0,0;");
            due.row("left", all(x.guess(0, 0), x.attempt(0, 0), x.guess(0, 0), x.guess(0, 1), x.guess(0, 2)), 2, 1, 1, 1, 1);
        });
        e.edge(19, "by what chance, in lowest terms; none.", "in lowest terms", due -> {
            ShakenParcels x = Checks.laid("t1,0,0,6;t1,0,0,9;p0,0,1;i0,0;");
            due.row("9 of 15", all(x.guess(0, 0), x.guess(0, 1), x.guess(0, 2)), 2, 3, 5);
            ShakenParcels y = Checks.laid("t1,0,0,6;p0,0,1;i0,0;");
            due.row("1 of 1", all(y.guess(0, 0), y.guess(0, 1), y.guess(0, 2)), 1, 1, 1);
        });
        e.edge(19, words, "the highest set that can be", due -> {
            ShakenParcels x = Checks.laid("t1,0,0,1;".repeat(6) + "t1,0,0,9;t1,0,0,9;p0,0,2;i0,0;i0,1;");
            // 81, 9 each of 12, 1 each of 15
            due.row("81 of 204", all(x.guess(0, 0), x.guess(0, 1), x.guess(0, 2)), 192, 27, 68);
        });
    }

    private static void guessRefused(Edges e) {
        e.edge(19, "GUESS: what is in it (what = 0), the chance: above (1), below (2).", "0 to 2, no other", due -> {
            ShakenParcels x = new ShakenParcels();
            due.row("what", all(x.guess(0, -1), x.guess(0, 0), x.guess(0, 1), x.guess(0, 2), x.guess(0, 3), x.guess(0, LEAST), x.guess(0, MOST)),
                    BAD, 1, 22, 75, BAD, BAD, BAD);
        });
        e.edge(19, "by what chance, in lowest terms; none.", "none is LEFT", due -> {
            ShakenParcels x = noneLeft();
            due.row("none", all(x.guess(0, 0), x.guess(0, 1), x.guess(0, 2), x.guess(1, 0)), NONE, NONE, NONE, NONE);
        });
        e.edge(19, "NONE; BAD.", "BAD is ahead of NONE", due -> {
            ShakenParcels x = noneLeft();
            due.row("both", all(x.guess(2, 0), x.guess(-1, 0), x.guess(0, 3), x.guess(0, -1)), BAD, BAD, BAD, BAD);
        });
        e.edge(19, SUCH_AS_THERE_ARE, "parcels that are not there", due -> {
            ShakenParcels x = new ShakenParcels();
            due.row("p", all(x.guess(-1, 0), x.guess(2, 0), x.guess(4, 0), x.guess(LEAST, 0), x.guess(MOST, 0)), BAD, BAD, BAD, BAD, BAD);
        });
    }
}
