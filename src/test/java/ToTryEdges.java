/** Edges of what to try: promises 20 to 24. */
final class ToTryEdges {
    private static final int BAD = Edges.BAD, NONE = Edges.NONE, LEAST = Edges.LEAST, MOST = Edges.MOST;
    /** The first of three is told by its weight, the others then by shaking. */
    private static final String ONE_OR_TWO = "t1,0,0,1;t2,0,0,1;t2,3,0,1;p0,0,1;i0,%d;";

    private ToTryEdges() { }

    static void tell(Edges e) {
        next(e);
        nextRefused(e);
        few(e);
        fewIsNone(e);
        solved(e);
        solvedIsNone(e);
        risk(e);
        riskOfMany(e);
        seconds(e);
    }

    private static long[] all(long... got) {
        return got;
    }

    private static ShakenParcels noneLeft() {
        ShakenParcels x = new ShakenParcels();
        x.hear(0, 0, 99);
        return x;
    }

    private static void next(Edges e) {
        String words = "NEXT: of all trials (by PARCEL, then SORT) that by which fewest WORLDS would be LEFT at the worst, of several the first:";
        e.edge(20, words, "at the worst, not by how many answers there are", due -> {
            // weighing answers in 4 ways, 3 at the worst; tipping in 3 ways, 2 at the worst
            ShakenParcels x = Checks.laid("t1,0,0,1;t1,1,0,1;t1,2,0,1;t2,0,0,1;t3,1,0,1;t4,2,0,1;p0,0,1;i0,0;");
            due.row("tip", all(x.next(0), x.next(1)), 1, 2);
        });
        e.edge(20, words, "of several the first sort", due -> {
            ShakenParcels x = Checks.laid("t1,0,0,1;t2,1,0,1;p0,0,1;i0,0;");
            due.row("weigh", all(x.next(0), x.next(1)), 0, 1);
            ShakenParcels y = Checks.laid("t1,0,0,1;t1,1,0,1;p0,0,1;i0,0;");
            due.row("tip", all(y.next(0), y.next(1)), 1, 1);
            ShakenParcels z = Checks.laid("t1,0,0,1;t1,3,0,1;p0,0,1;i0,0;");
            due.row("shake", all(z.next(0), z.next(1)), 2, 1);
        });
        e.edge(20, words, "by parcel, then by sort", due -> {
            // shaking parcel 0 tells as much as weighing parcel 1, whose box makes up a step
            ShakenParcels x = Checks.laid("t2,0,0,1;t3,3,0,1;p0,0,1;p1,0,1;i0,0;i1,1;g2;");
            due.row("shake 0", all(x.next(0), x.next(1)), 2, 1);
        });
        e.edge(20, words, "worlds, whatever they weigh", due -> {
            // weighing parts 3 and 1, tipping 2 and 2; by what they weigh it were the other way
            ShakenParcels x = Checks.laid("t1,0,0,1;t1,1,0,1;t1,0,0,1;t2,1,0,9;p0,0,1;i0,0;");
            due.row("tip", all(x.next(0), x.next(1)), 1, 2);
        });
        e.edge(20, "4 times the PARCEL and the SORT; how many;", "a trial of the last parcel", due -> {
            // boxes make up a step of 9 in the last one alone
            ShakenParcels x = Checks.laid("t1,0,0,1;t2,0,0,1;t2,0,0,1;t2,0,0,1;p0,0,1;p0,0,1;p0,0,1;p7,0,1;i0,0;i1,1;i2,2;i3,3;g9;");
            due.row("weigh 3", all(x.count(2), x.next(0), x.next(1)), 24, 12, 18);
        });
        e.edge(20, words, "one is LEFT, or nothing tells: the first of all", due -> {
            ShakenParcels x = Checks.laid("t1,0,0,1;p0,0,1;i0,0;");
            due.row("one", all(x.next(0), x.next(1)), 0, 1);
            ShakenParcels y = Checks.laid(Edges.TWINS);
            due.row("twins", all(y.next(0), y.next(1)), 0, 2);
        });
        e.edge(20, words, "of what is LEFT now", due -> {
            ShakenParcels x = Checks.laid("t1,0,0,1;t1,1,0,1;t1,2,0,1;t2,0,0,1;t3,1,0,1;t4,2,0,1;p0,0,1;i0,0;");
            // tipping tells most, then weighing
            due.row("tipped", all(x.next(0), x.attempt(0, 1), x.left(), x.next(0), x.next(1)), 1, 0, 2, 0, 1);
        });
        e.edge(20, words, "false weights are in no world", due -> {
            ShakenParcels x = Checks.laid(Edges.PAIR);
            x.hide(0, 9);
            due.row("weigh", all(x.next(0), x.next(1)), 0, 1);
        });
    }

    private static void nextRefused(Edges e) {
        e.edge(20, "NEXT: the trial (what = 0), how many (1).", "0 and 1, no other", due -> {
            ShakenParcels x = new ShakenParcels();
            due.row("what", all(x.next(-1), x.next(0), x.next(1), x.next(2), x.next(LEAST), x.next(MOST)), BAD, 4, 4, BAD, BAD, BAD);
        });
        e.edge(20, "4 times the PARCEL and the SORT; how many; none (none is LEFT).", "none is LEFT", due -> {
            ShakenParcels x = noneLeft();
            due.row("none", all(x.next(0), x.next(1), x.undo(), x.next(0), x.next(1)), NONE, NONE, 0, 4, 4);
        });
        e.edge(20, "NONE; BAD.", "BAD is ahead of NONE", due -> {
            ShakenParcels x = noneLeft();
            due.row("both", all(x.next(2), x.next(-1)), BAD, BAD);
        });
    }

    private static int few(String text, int p) {
        return Checks.laid(text).few(p);
    }

    private static void few(Edges e) {
        String words = "FEW for a PARCEL: how many trials (0 to 2), the second one chosen by the answer of the first one, are enough to know what is in it, whatever they are;";
        e.edge(21, words, "0: one world, or all alike for this parcel", due -> {
            due.due("one world", few("t1,0,0,1;p0,0,1;i0,0;", 0), 0);
            ShakenParcels x = new ShakenParcels();
            x.hear(0, 1, 1);
            due.row("parcel 1 is not known", all(x.left(), x.few(0), x.few(1)), 3, 0, 2);
        });
        e.edge(21, words, "1: a trial of this parcel, or of another one", due -> {
            due.due("this one", few(Edges.PAIR, 0), 1);
            due.due("the other one, whose box makes up a step", few("t1,0,0,1;t2,0,0,1;p0,0,1;p7,0,1;i0,0;i1,1;g9;", 0), 1);
        });
        e.edge(21, words, "2: the second one chosen by the answer of the first one", due ->
                // weight 1 is to be tipped, weight 2 is to be shaken; no two trials chosen ahead tell all five
                due.due("two", few("t1,1,0,1;t1,2,0,1;t2,0,0,1;t2,3,0,1;t3,0,0,1;p0,0,1;i0,0;", 0), 2));
        e.edge(21, words, "1: a trial of the last parcel", due -> {
            // 0 and 1 are known; of 2 and 3 the box of the last one alone makes up a step
            ShakenParcels x = Checks.laid("t1,1,0,1;t1,2,0,1;t1,0,0,1;t2,0,0,1;p0,0,1;p0,0,1;p0,0,1;p7,0,1;i0,0;i1,1;i2,2;i3,3;g9;");
            x.attempt(0, 1);
            x.attempt(1, 1);
            due.row("few", all(x.left(), x.few(0), x.few(1), x.few(2), x.few(3)), 2, 0, 0, 1, 1);
        });
        e.edge(21, words, "2: whichever trial comes first", due -> {
            // only weighing first leaves pairs that a second trial tells apart
            due.due("weigh first", few("t1,1,0,1;t1,2,0,1;t2,0,0,1;t2,3,0,1;t3,0,0,1;t3,3,0,1;p0,0,1;i0,0;", 0), 2);
            due.due("weigh first, in steps", few("t3,1,0,1;t3,2,0,1;t4,0,0,1;t4,3,0,1;t6,0,0,1;t6,3,0,1;p0,0,1;i0,0;g2;", 0), 2);
            due.due("shake first", few("t1,0,0,1;t1,3,0,1;t1,1,0,1;t1,2,0,1;t2,0,0,1;p0,0,1;i0,0;", 0), 2);
        });
        e.edge(21, words, "whatever they are: the worst answer counts", due -> {
            due.due("one answer is not enough", few(String.format(ONE_OR_TWO, 0), 0), 2);
            due.due("whichever the truth is", few(String.format(ONE_OR_TWO, 1), 0), 2);
        });
        e.edge(21, words, "from what is LEFT", due -> {
            ShakenParcels x = Checks.laid(String.format(ONE_OR_TWO, 1));
            due.row("one by one", all(x.few(0), x.attempt(0, 0), x.few(0), x.attempt(0, 2), x.few(0)), 2, 2, 1, 0, 0);
        });
    }

    private static void fewIsNone(Edges e) {
        String words = "none (2 are not, none is LEFT).";
        e.edge(21, words, "three would be enough, two are not", due ->
                // all kinds of weight 1, and two kinds of weight 2
                due.due("three", few("t1,0,0,1;t1,1,0,1;t1,2,0,1;t1,3,0,1;t2,0,0,1;t2,3,0,1;p0,0,1;i0,0;", 0), NONE));
        e.edge(21, words, "no trials are enough", due -> {
            due.due("twins", few(Edges.TWINS, 0), NONE);
            due.due("two of three alike", few("t1,0,0,1;t1,0,0,1;t2,0,0,1;p0,0,1;i0,2;", 0), NONE);
            due.due("twins that are not side by side", few("t1,0,0,1;t2,0,0,1;t1,3,0,1;t2,0,0,1;p0,0,1;i0,0;", 0), NONE);
            due.due("2520 worlds alike", few(Edges.EIGHT, 3), NONE);
        });
        e.edge(21, words, "none is LEFT", due -> {
            ShakenParcels x = noneLeft();
            due.row("none", all(x.few(0), x.few(1)), NONE, NONE);
        });
        e.edge(21, "FEW. NONE; BAD.", "parcels that are not there", due -> {
            ShakenParcels x = new ShakenParcels();
            due.row("p", all(x.few(-1), x.few(2), x.few(4), x.few(LEAST), x.few(MOST)), BAD, BAD, BAD, BAD, BAD);
        });
        e.edge(21, "FEW. NONE; BAD.", "BAD is ahead of NONE", due -> {
            ShakenParcels x = noneLeft();
            due.row("both", all(x.few(2), x.few(-1)), BAD, BAD);
        });
    }

    private static void solved(Edges e) {
        String words = "SOLVED: NEXT again and again, answered by the truth (no false weights), as if HEARD so, from what is LEFT now (there can be more than 12 ANSWERS so):";
        e.edge(22, words, "by the truth: the same tree, another truth", due -> {
            ShakenParcels x = Checks.laid(String.format(ONE_OR_TWO, 0));
            due.row("one", all(x.solved(0), x.solved(1)), 1, 10);
            ShakenParcels y = Checks.laid(String.format(ONE_OR_TWO, 2));
            due.row("two", all(y.solved(0), y.solved(1)), 2, 20);
        });
        e.edge(22, words, "no false weights", due -> {
            ShakenParcels x = Checks.laid(String.format(ONE_OR_TWO, 0));
            x.hide(0, 1);
            due.row("not as if it weighed 2", all(x.solved(0), x.solved(1)), 1, 10);
        });
        e.edge(22, words, "from what is LEFT now", due -> {
            ShakenParcels x = Checks.laid(String.format(ONE_OR_TWO, 2));
            due.row("one less", all(x.attempt(0, 0), x.solved(0), x.solved(1)), 2, 1, 10);
        });
        e.edge(22, words, "more than 12 answers", due -> {
            ShakenParcels x = Checks.laid(String.format(ONE_OR_TWO, 2));
            for (int i = 0; i < 12; i++) {
                x.attempt(0, 1);
            }
            due.row("12 that tell nothing", all(x.count(3), x.left(), x.solved(0), x.solved(1), x.count(3)), 12, 3, 2, 20, 12);
        });
        e.edge(22, words, "as if HEARD: nothing is", due -> {
            ShakenParcels x = new ShakenParcels();
            due.row("nothing changes", all(x.solved(0), x.count(3), x.count(4), x.left(), x.seconds(), x.solved(0)), 3, 0, 0, 12, 0, 3);
        });
        e.edge(22, "how many till one WORLD is LEFT (0 to 20); how many seconds these take;", "0 and no seconds if one is LEFT now", due -> {
            ShakenParcels x = Checks.laid("t1,0,0,1;p0,0,1;i0,0;");
            due.row("none to do", all(x.left(), x.solved(0), x.solved(1)), 1, 0, 0);
        });
        e.edge(22, "how many till one WORLD is LEFT (0 to 20); how many seconds these take;", "of each sort its own", due -> {
            ShakenParcels x = Checks.laid(String.format(ONE_OR_TWO, 2) + "n0,9,60;n2,9,1;n1,9,30;");
            due.row("60 and 1", all(x.solved(0), x.solved(1), x.seconds()), 2, 61, 0);
        });
        e.edge(22, "SOLVED: how many trials (what = 0), seconds (1).", "0 and 1, no other", due -> {
            ShakenParcels x = new ShakenParcels();
            due.row("what", all(x.solved(-1), x.solved(0), x.solved(1), x.solved(2), x.solved(LEAST), x.solved(MOST)), BAD, 3, 50, BAD, BAD, BAD);
        });
    }

    private static void solvedIsNone(Edges e) {
        String words = "none (it does not come to that; the truth is not LEFT now).";
        e.edge(22, words, "it does not come to that", due -> {
            ShakenParcels x = Checks.laid(Edges.TWINS);
            due.row("twins", all(x.solved(0), x.solved(1)), NONE, NONE);
            ShakenParcels y = Checks.laid("t1,0,0,1;t1,0,0,1;t2,0,0,1;p0,0,1;i0,0;");
            due.row("two of three alike", all(y.solved(0), y.solved(1)), NONE, NONE);
        });
        e.edge(22, words, "it comes to that if the truth is the third one", due -> {
            ShakenParcels x = Checks.laid("t1,0,0,1;t1,0,0,1;t2,0,0,1;p0,0,1;i0,2;");
            due.row("the third", all(x.solved(0), x.solved(1)), 1, 10);
        });
        e.edge(22, words, "the truth is not LEFT, though one is", due -> {
            ShakenParcels x = Checks.laid(Edges.PAIR);
            due.row("the other one", all(x.hear(0, 0, 2), x.left(), x.solved(0), x.solved(1)), 1, 1, NONE, NONE);
        });
        e.edge(22, words, "the truth was changed", due -> {
            ShakenParcels x = Checks.laid(Edges.FOUR);
            x.attempt(0, 0);
            due.row("changed", all(x.solved(0), x.change(0, 1), x.solved(0), x.undo(), x.solved(0)), 1, 2, NONE, 1, 1);
        });
        e.edge(22, words, "a false weight misled", due -> {
            ShakenParcels x = Checks.laid(Edges.PAIR);
            x.hide(0, 1);
            due.row("misled", all(x.attempt(0, 0), x.left(), x.solved(0)), 2, 1, NONE);
        });
        e.edge(22, words, "none is LEFT", due -> {
            ShakenParcels x = noneLeft();
            due.row("none", all(x.solved(0), x.solved(1)), NONE, NONE);
        });
        e.edge(22, "NONE; BAD.", "BAD is ahead of NONE", due -> {
            ShakenParcels x = noneLeft();
            due.row("both", all(x.solved(2), x.solved(-1)), BAD, BAD);
        });
    }

    private static void risk(Edges e) {
        String words = "RISK: the chance that some trial that was TRIED or HEARD was noticed, each for itself, in lowest terms.";
        e.edge(23, words, "no trial: 0 by 1", due -> {
            ShakenParcels x = Checks.laid(Edges.PAIR + "n0,9,1;");
            due.row("none", all(x.risk(0), x.risk(1)), 0, 1);
        });
        e.edge(23, words, "a chance of 0: 0 by 1", due -> {
            ShakenParcels x = Checks.laid(Edges.PAIR + "n0,0,1;");
            due.row("never noticed", all(x.attempt(0, 0), x.risk(0), x.risk(1)), 1, 0, 1);
        });
        e.edge(23, "is noticed by the chance of N (0 to 9) of ten", "each N from 0 to 9", due -> {
            long[][] want = {{0, 1}, {1, 10}, {1, 5}, {3, 10}, {2, 5}, {1, 2}, {3, 5}, {7, 10}, {4, 5}, {9, 10}};
            for (int n = 0; n <= 9; n++) {
                ShakenParcels x = Checks.laid(Edges.PAIR + "n3," + n + ",1;");
                x.attempt(0, 3);
                due.row("N " + n, all(x.risk(0), x.risk(1)), want[n]);
            }
        });
        e.edge(23, words, "TRIED and HEARD alike", due -> {
            ShakenParcels x = Checks.laid(Edges.PAIR + "n0,5,1;");
            due.row("1 of 2, 3 of 4", all(x.attempt(0, 0), x.risk(0), x.risk(1), x.hear(0, 0, 99), x.risk(0), x.risk(1)), 1, 1, 2, 2, 3, 4);
        });
        e.edge(23, words, "what was undone was not tried", due -> {
            ShakenParcels x = Checks.laid(Edges.PAIR + "n0,5,1;");
            due.row("undone", all(x.attempt(0, 0), x.undo(), x.risk(0), x.risk(1)), 1, 0, 0, 1);
        });
        e.edge(23, words, "changing, putting in is no trial", due -> {
            ShakenParcels x = Checks.laid(Edges.FOUR + "n0,9,1;n1,9,1;n2,9,1;n3,9,1;");
            due.row("none", all(x.change(0, 1), x.hide(0, 1), x.risk(0), x.risk(1)), 2, 0, 0, 1);
        });
    }

    private static void riskOfMany(Edges e) {
        String words = "RISK: the chance that some trial that was TRIED or HEARD was noticed, each for itself, in lowest terms.";
        e.edge(23, words, "12 of 9 by ten: more than an int holds", due -> {
            ShakenParcels x = Checks.laid(Edges.PAIR + "n0,9,1;");
            for (int i = 0; i < 12; i++) {
                x.attempt(0, 0);
            }
            due.row("12", all(x.risk(0), x.risk(1)), 999999999999L, 1000000000000L);
        });
        e.edge(23, words, "12 of 1 by ten", due -> {
            ShakenParcels x = Checks.laid(Edges.PAIR + "n0,1,1;");
            for (int i = 0; i < 12; i++) {
                x.attempt(0, 0);
            }
            // 9 multiplied 12 times is 282429536481
            due.row("12", all(x.risk(0), x.risk(1)), 717570463519L, 1000000000000L);
        });
        e.edge(23, words, "12 of 5 by ten, in lowest terms", due -> {
            ShakenParcels x = Checks.laid(Edges.PAIR + "n0,5,1;");
            for (int i = 0; i < 12; i++) {
                x.attempt(0, 0);
            }
            due.row("4095 of 4096", all(x.risk(0), x.risk(1)), 4095, 4096);
        });
        e.edge(23, "RISK: above (part = 0), below (1). BAD.", "0 and 1, no other", due -> {
            ShakenParcels x = new ShakenParcels();
            due.row("parts", all(x.risk(-1), x.risk(0), x.risk(1), x.risk(2), x.risk(LEAST), x.risk(MOST)), BAD, 0, 1, BAD, BAD, BAD);
        });
    }

    private static void seconds(Edges e) {
        String words = "How many seconds all ANSWERS took.";
        e.edge(24, words, "no answers", due -> {
            ShakenParcels x = Checks.laid(Edges.PAIR);
            due.row("none", all(x.seconds(), x.hide(0, 1), x.seconds()), 0, 0, 0);
        });
        e.edge(24, words, "TRIED and HEARD alike, of each sort its own", due -> {
            ShakenParcels x = new ShakenParcels();
            due.row("20, 5, 10, 10", all(x.attempt(0, 0), x.seconds(), x.hear(0, 2, 99), x.seconds(), x.attempt(0, 3), x.seconds(), x.hear(1, 1, 0), x.seconds()),
                    3, 20, 2, 25, 0, 35, 4, 45);
        });
        e.edge(24, "and takes S (1 to 60) seconds", "12 of 60, 12 of 1", due -> {
            ShakenParcels x = Checks.laid(Edges.PAIR + "n3,0,60;n2,0,1;");
            for (int i = 0; i < 12; i++) {
                x.attempt(0, 3);
            }
            due.due("most", x.seconds(), 720);
            x.lay();
            for (int i = 0; i < 12; i++) {
                x.attempt(0, 2);
            }
            due.due("least", x.seconds(), 12);
        });
        e.edge(24, words, "what was undone took none", due -> {
            ShakenParcels x = new ShakenParcels();
            due.row("undone", all(x.attempt(0, 0), x.attempt(0, 2), x.undo(), x.seconds(), x.undo(), x.seconds()), 3, 1, 1, 20, 0, 0);
        });
        e.edge(24, words, "a refused one took none", due -> {
            ShakenParcels x = new ShakenParcels();
            due.row("refused", all(x.attempt(0, 4), x.hear(0, 0, 100), x.seconds()), BAD, BAD, 0);
        });
    }
}
