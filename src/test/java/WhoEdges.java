import java.math.BigInteger;

/** Edges of who misleads and who gets what: promises 25 to 28. */
final class WhoEdges {
    private static final int BAD = Edges.BAD, NONE = Edges.NONE, LEAST = Edges.LEAST, MOST = Edges.MOST;
    private static final String ALONE = "p0,0,1;i0,0;";
    /** World 0 is told by its weight, worlds 1 and 2 then by shaking. */
    private static final String ONE_OR_TWO = "t1,0,0,1;t2,0,0,1;t2,3,0,1;" + ALONE;

    private WhoEdges() { }

    static void tell(Edges e) {
        misled(e);
        misledByWhat(e);
        misledRefused(e);
        more(e);
        heavier(e);
        heavierRefused(e);
        morning(e);
        draws(e);
        morningRefused(e);
    }

    private static long[] all(long... got) {
        return got;
    }

    private static void misled(Edges e) {
        String words = "MISLED: which false weight (0 to 9) in a PARCEL would leave most WORLDS, were it WEIGHED now, of several the lowest: it;";
        e.edge(25, words, "9 is one, 10 is not", due -> {
            ShakenParcels x = Checks.laid("t1,0,0,1;t10,0,0,1;t10,0,0,1;" + ALONE);
            due.row("9", all(x.misled(0, 0), x.misled(0, 1)), 9, 2);
            ShakenParcels y = Checks.laid("t1,0,0,1;t11,0,0,1;t11,0,0,1;" + ALONE);
            due.row("10", all(y.misled(0, 0), y.misled(0, 1)), 0, 1);
        });
        e.edge(25, words, "0 is one: the truth itself leaves most", due -> {
            ShakenParcels x = Checks.laid("t1,0,0,1;t1,0,0,1;t2,0,0,1;" + ALONE);
            due.row("0", all(x.misled(0, 0), x.misled(0, 1)), 0, 2);
        });
        e.edge(25, words, "none is below 0: nothing makes it lighter", due -> {
            ShakenParcels x = Checks.laid("t2,0,0,1;t1,0,0,1;t1,0,0,1;" + ALONE);
            due.row("0", all(x.misled(0, 0), x.misled(0, 1)), 0, 1);
        });
        e.edge(25, words, "of several the lowest", due -> {
            ShakenParcels x = Checks.laid("t1,0,0,1;t5,0,0,1;t5,0,0,1;t3,0,0,1;t3,0,0,1;" + ALONE);
            due.row("2 and 4", all(x.misled(0, 0), x.misled(0, 1)), 2, 2);
            ShakenParcels y = Checks.laid(Edges.PAIR);
            due.row("0 and 1", all(y.misled(0, 0), y.misled(0, 1)), 0, 1);
        });
        e.edge(25, words, "weighed in steps: the lowest of those that come to the same", due -> {
            ShakenParcels x = Checks.laid("t1,0,0,1;t6,0,0,1;t7,0,0,1;" + ALONE + "g3;");
            // 5 and 1 is the first to come to 6, as 6 and 7 do
            due.row("by 3", all(x.misled(0, 0), x.misled(0, 1)), 5, 2);
        });
    }

    private static void misledByWhat(Edges e) {
        String words = "MISLED: which false weight (0 to 9) in a PARCEL would leave most WORLDS, were it WEIGHED now, of several the lowest: it;";
        e.edge(25, words, "in place of the one that was, which stays", due -> {
            ShakenParcels x = Checks.laid("t1,0,0,1;t10,0,0,1;t10,0,0,1;" + ALONE);
            x.hide(0, 6);
            due.row("still 9", all(x.misled(0, 0), x.misled(0, 1), x.parcel(0, 4), x.count(3), x.count(4)), 9, 2, 6, 0, 1);
        });
        e.edge(25, words, "by the truth as it is now", due -> {
            ShakenParcels x = Checks.laid("t1,0,0,1;t4,0,0,1;t6,0,0,1;t6,0,0,1;p0,0,1;p0,0,1;i0,0;i1,1;");
            due.row("1 and 5, 4 and 2", all(x.misled(0, 0), x.misled(0, 1), x.change(0, 1), x.misled(0, 0), x.misled(0, 1)), 5, 6, 2, 2, 6);
        });
        e.edge(25, "how many (of what is LEFT now; 0 of these, if none would be).", "of what is LEFT now", due -> {
            ShakenParcels x = Checks.laid("t1,0,0,1;t10,0,0,1;t10,3,0,1;" + ALONE);
            due.row("one of the two is left", all(x.hear(0, 2, 0), x.left(), x.misled(0, 0), x.misled(0, 1)), 1, 2, 0, 1);
            due.row("the truth is not left", all(x.undo(), x.hear(0, 2, 1), x.misled(0, 0), x.misled(0, 1)), 0, 1, 9, 1);
        });
        e.edge(25, "how many (of what is LEFT now; 0 of these, if none would be).", "none would be, though some are LEFT", due -> {
            ShakenParcels x = Checks.laid("t1,0,0,1;t11,0,0,1;t11,0,0,1;" + ALONE);
            due.row("10 away", all(x.hear(0, 0, 11), x.left(), x.misled(0, 0), x.misled(0, 1)), 1, 2, 0, 0);
        });
        e.edge(25, "how many (of what is LEFT now; 0 of these, if none would be).", "none is LEFT", due -> {
            ShakenParcels x = Checks.laid(Edges.PAIR);
            x.hear(0, 0, 99);
            due.row("none", all(x.misled(0, 0), x.misled(0, 1)), 0, 0);
        });
    }

    private static void misledRefused(Edges e) {
        e.edge(25, "MISLED: the weight (what = 0), how many (1).", "0 and 1, no other", due -> {
            ShakenParcels x = new ShakenParcels();
            due.row("what", all(x.misled(0, -1), x.misled(0, 0), x.misled(0, 1), x.misled(0, 2), x.misled(0, LEAST), x.misled(0, MOST)), BAD, 0, 6, BAD, BAD, BAD);
        });
        e.edge(25, "BAD.", "parcels that are not there", due -> {
            ShakenParcels x = new ShakenParcels();
            due.row("p", all(x.misled(-1, 0), x.misled(2, 0), x.misled(4, 1), x.misled(LEAST, 0), x.misled(MOST, 0)), BAD, BAD, BAD, BAD, BAD);
        });
    }

    private static void more(Edges e) {
        String words = "MORE: in how many WORLDS LEFT CHILD 0 gets more worth than CHILD 1, as much, less.";
        e.edge(26, words, "one more, as much, one less", due -> {
            ShakenParcels x = Checks.laid("t1,0,4,1;t1,0,4,1;t1,0,5,1;p0,0,1;p0,1,1;i0,0;i1,1;");
            due.row("each", all(x.more(0), x.more(1), x.more(2)), 2, 2, 2);
        });
        e.edge(26, words, "all parcels of a child together", due -> {
            ShakenParcels x = Checks.laid("t1,0,3,1;t1,0,3,1;t1,0,5,1;p0,0,1;p0,1,1;p0,0,1;i0,0;i1,2;i2,1;");
            // 3 and 3 for 5 twice, 3 and 5 for 3 four times
            due.row("together", all(x.more(0), x.more(1), x.more(2)), 6, 0, 0);
        });
        e.edge(26, words, "parcel 0 is for CHILD 1, three are for CHILD 0", due -> {
            ShakenParcels x = Checks.laid("t1,0,5,1;t1,0,1,1;t1,0,1,1;t1,0,1,1;p0,1,1;p0,0,1;p0,0,1;p0,0,1;i0,0;i1,1;i2,2;i3,3;");
            // 3 to 5 in 6 worlds, 7 to 1 in 18
            due.row("each", all(x.more(0), x.more(1), x.more(2)), 18, 0, 6);
            ShakenParcels y = Checks.laid("t1,0,5,1;t1,0,1,1;t1,0,1,1;t1,0,1,1;p0,0,1;p0,0,1;p0,0,1;p0,1,1;i0,0;i1,1;i2,2;i3,3;");
            due.row("parcel 3 is", all(y.more(0), y.more(1), y.more(2)), 18, 0, 6);
        });
        e.edge(26, words, "a child without parcels gets nothing", due -> {
            ShakenParcels x = Checks.laid("t1,0,0,1;t1,0,1,1;p0,1,1;i0,0;");
            due.row("1 alone", all(x.more(0), x.more(1), x.more(2)), 0, 1, 1);
            ShakenParcels y = Checks.laid("t1,0,0,1;t1,0,1,1;p0,0,1;i0,0;");
            due.row("0 alone", all(y.more(0), y.more(1), y.more(2)), 1, 1, 0);
        });
        e.edge(26, words, "of those LEFT, none", due -> {
            ShakenParcels x = Checks.laid("t1,0,4,1;t2,0,4,1;t3,0,5,1;p0,0,1;p0,1,1;i0,2;i1,1;");
            x.attempt(0, 0);
            due.row("left", all(x.more(0), x.more(1), x.more(2)), 2, 0, 0);
            x.hear(0, 0, 99);
            due.row("none", all(x.more(0), x.more(1), x.more(2)), 0, 0, 0);
        });
        e.edge(26, "MORE: more (what = 0), as much (1), less (2). BAD.", "0 to 2, no other", due -> {
            ShakenParcels x = new ShakenParcels();
            due.row("what", all(x.more(-1), x.more(0), x.more(1), x.more(2), x.more(3), x.more(LEAST), x.more(MOST)), BAD, 0, 0, 12, BAD, BAD, BAD);
        });
    }

    private static void heavier(Edges e) {
        String words = "HEAVIER: in how many of them PARCEL p weighs more than q (boxes, too).";
        e.edge(27, words, "as heavy is not heavier", due -> {
            ShakenParcels x = Checks.laid("t1,0,0,1;t1,0,0,1;p0,0,1;p0,0,1;i0,0;i1,1;");
            due.row("alike", all(x.heavier(0, 1), x.heavier(1, 0)), 0, 0);
        });
        e.edge(27, words, "boxes, too", due -> {
            ShakenParcels x = Checks.laid("t1,0,0,1;t2,0,0,1;p1,0,1;p0,0,1;i0,0;i1,1;");
            // 2 and 2, or 3 and 1
            due.row("1 more", all(x.heavier(0, 1), x.heavier(1, 0)), 1, 0);
            ShakenParcels y = Checks.laid("t1,0,0,1;t2,0,0,1;p0,0,1;p9,0,1;i0,0;i1,1;");
            due.row("9 more", all(y.heavier(0, 1), y.heavier(1, 0)), 0, 2);
        });
        e.edge(27, words, "weights, not steps of the scale", due -> {
            ShakenParcels x = Checks.laid("t1,0,0,1;t2,0,0,1;p0,0,1;p0,0,1;i0,0;i1,1;g9;");
            due.row("by 9 all alike", all(x.heavier(0, 1), x.heavier(1, 0)), 1, 1);
        });
        e.edge(27, words, "of two things, without false weights", due -> {
            ShakenParcels x = Checks.laid("t1,0,0,1;t2,0,0,1;t4,0,0,1;p0,0,2;p0,0,1;i0,0;i0,1;i1,2;");
            x.hide(0, 9);
            // 3 to 4, 5 to 2, 6 to 1
            due.row("two and one", all(x.heavier(0, 1), x.heavier(1, 0)), 2, 1);
        });
        e.edge(27, words, "of those LEFT, none", due -> {
            ShakenParcels x = Checks.laid("t1,0,0,1;t2,0,0,1;p0,0,1;p0,0,1;i0,0;i1,1;");
            due.row("left", all(x.attempt(0, 0), x.heavier(0, 1), x.heavier(1, 0)), 1, 0, 1);
            due.row("none", all(x.hear(0, 0, 99), x.heavier(0, 1), x.heavier(1, 0)), 2, 0, 0);
        });
    }

    private static void heavierRefused(Edges e) {
        e.edge(27, "BAD (alike, too).", "a parcel by itself", due -> {
            ShakenParcels x = new ShakenParcels();
            due.row("alike", all(x.heavier(0, 0), x.heavier(1, 1), x.heavier(2, 2)), BAD, BAD, BAD);
        });
        e.edge(27, "HEAVIER. BAD (alike, too).", "parcels that are not there", due -> {
            ShakenParcels x = new ShakenParcels();
            due.row("p", all(x.heavier(-1, 0), x.heavier(2, 0), x.heavier(LEAST, 0), x.heavier(MOST, 0)), BAD, BAD, BAD, BAD);
            due.row("q", all(x.heavier(0, -1), x.heavier(0, 2), x.heavier(0, LEAST), x.heavier(0, MOST)), BAD, BAD, BAD, BAD);
        });
    }

    private static void morning(Edges e) {
        String words = "SOLVED from no ANSWERS: how many; seconds; none.";
        e.edge(28, words, "whatever was heard, put in, changed", due -> {
            ShakenParcels x = Checks.laid(ONE_OR_TWO);
            due.row("at first", all(x.morning(0, 0), x.morning(0, 1), x.morning(1, 0), x.morning(1, 1)), 2, 20, 1, 10);
            x.hear(0, 0, 99);
            x.hide(0, 9);
            due.row("then", all(x.left(), x.morning(0, 0), x.morning(0, 1), x.morning(1, 0), x.morning(1, 1)), 0, 2, 20, 1, 10);
        });
        e.edge(28, words, "nothing changes by it", due -> {
            ShakenParcels x = Checks.laid(ONE_OR_TWO);
            x.attempt(0, 0);
            due.row("as before", all(x.left(), x.morning(6, 0), x.parcel(0, 3), x.count(3), x.count(4), x.left(), x.seconds()), 1, 2, 1, 1, 1, 1, 10);
        });
        e.edge(28, words, "one world: no trials", due -> {
            ShakenParcels x = Checks.laid("t1,0,0,1;" + ALONE);
            due.row("none to do", all(x.morning(0, 0), x.morning(0, 1), x.morning(9999, 0), x.morning(9999, 1)), 0, 0, 0, 0);
        });
        e.edge(28, words, "it does not come to that, by what is drawn", due -> {
            // worlds 0 and 1 are alike, 2 is not; 1 is drawn by 0, 0 by 1, 2 by 6
            ShakenParcels x = Checks.laid("t1,0,0,1;t1,0,0,1;t2,0,0,1;" + ALONE);
            due.row("trials", all(x.morning(0, 0), x.morning(1, 0), x.morning(6, 0)), NONE, NONE, 1);
            due.row("seconds", all(x.morning(0, 1), x.morning(1, 1), x.morning(6, 1)), NONE, NONE, 10);
        });
    }

    private static void draws(Edges e) {
        String words = "A MORNING by z (0 to 9999): the truth is the WORLD of number DRAW modulo how many there are (none LEFT out), "
                + "DRAW (x times x) modulo 65521, x 7919 z and 1 together;";
        e.edge(28, words, "draws found by hand", due -> {
            // 1, 22803, 59533, 18128, 8482, 51303 modulo 3
            ShakenParcels x = Checks.laid(ONE_OR_TWO);
            due.row("by z", all(x.morning(0, 0), x.morning(1, 0), x.morning(2, 0), x.morning(6, 0), x.morning(9998, 0), x.morning(9999, 0)), 2, 1, 2, 2, 2, 1);
        });
        e.edge(28, words, "each z from 0 to 9999, though x times x is more than an int holds", due -> {
            BigInteger modulus = BigInteger.valueOf(65521);
            ShakenParcels x = null;
            for (int z = 0; z <= 9999; z++) {
                if (z % 400 == 0) {
                    x = Checks.laid(ONE_OR_TWO);
                }
                BigInteger sum = BigInteger.valueOf(7919).multiply(BigInteger.valueOf(z)).add(BigInteger.ONE);
                int world = sum.multiply(sum).mod(modulus).mod(BigInteger.valueOf(3)).intValue();
                due.due("morning " + z, x.morning(z, 0), world == 0 ? 1 : 2);
            }
        });
        e.edge(28, words, "none LEFT out", due -> {
            ShakenParcels x = Checks.laid(ONE_OR_TWO);
            // one world is LEFT, but it is number 1 of three that is drawn
            due.row("all count", all(x.attempt(0, 0), x.left(), x.morning(0, 0), x.morning(1, 0)), 1, 1, 2, 1);
        });
    }

    private static void morningRefused(Edges e) {
        e.edge(28, "A MORNING: how many trials (what = 0), seconds (1).", "z of -1 and 10000 is BAD", due -> {
            ShakenParcels x = Checks.laid(ONE_OR_TWO);
            due.row("z", all(x.morning(-1, 0), x.morning(0, 0), x.morning(9999, 0), x.morning(10000, 0), x.morning(LEAST, 0), x.morning(MOST, 0)),
                    BAD, 2, 1, BAD, BAD, BAD);
        });
        e.edge(28, "A MORNING: how many trials (what = 0), seconds (1).", "0 and 1, no other", due -> {
            ShakenParcels x = Checks.laid(ONE_OR_TWO);
            due.row("what", all(x.morning(0, -1), x.morning(0, 0), x.morning(0, 1), x.morning(0, 2), x.morning(0, LEAST), x.morning(0, MOST)),
                    BAD, 2, 20, BAD, BAD, BAD);
        });
        e.edge(28, "NONE; BAD.", "BAD is ahead of NONE", due -> {
            ShakenParcels x = Checks.laid(Edges.TWINS);
            due.row("both", all(x.morning(0, 0), x.morning(0, 2), x.morning(-1, 0), x.morning(10000, 1)), NONE, BAD, BAD, BAD);
        });
    }
}
