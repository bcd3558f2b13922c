/** Edges of asking what is laid: promises 6 to 9. */
final class TreeEdges {
    private static final int BAD = Edges.BAD, NONE = Edges.NONE, LEAST = Edges.LEAST, MOST = Edges.MOST;
    private static final String SUCH_AS_THERE_ARE = "BAD: a number is none that is told (THINGS, PARCELS, SORTS: such as there are).";

    private TreeEdges() { }

    static void tell(Edges e) {
        thing(e);
        parcel(e);
        world(e);
        order(e);
        answer(e);
        weigh(e);
        otherSorts(e);
    }

    private static long[] all(long... got) {
        return got;
    }

    private static void thing(Edges e) {
        String words = "Of a THING: weight (what = 0), KIND (1), worth (2), CHANCE (3), the PARCEL in which it is in truth (4; NONE).";
        e.edge(6, words, "the highest and the lowest that can be told", due -> {
            ShakenParcels x = Checks.laid("t20,3,9,9;t1,0,0,1;p0,0,1;i0,0;");
            due.row("highest", all(x.thing(0, 0), x.thing(0, 1), x.thing(0, 2), x.thing(0, 3), x.thing(0, 4)), 20, 3, 9, 9, 0);
            due.row("lowest", all(x.thing(1, 0), x.thing(1, 1), x.thing(1, 2), x.thing(1, 3), x.thing(1, 4)), 1, 0, 0, 1, NONE);
        });
        e.edge(6, words, "a thing in no parcel is in NONE", due -> {
            ShakenParcels x = new ShakenParcels();
            due.row("thing 1", all(x.thing(1, 4), x.thing(2, 4), x.thing(0, 4), x.thing(3, 4)), NONE, 0, 1, 1);
        });
        e.edge(6, words, "in truth as it is now", due -> {
            ShakenParcels x = Checks.laid(Edges.FOUR);
            due.row("changed", all(x.thing(0, 4), x.change(0, 1), x.thing(0, 4), x.thing(1, 4), x.undo(), x.thing(0, 4)), 0, 2, 1, 0, 0, 0);
        });
        e.edge(6, words, "the last thing of 8 in the last parcel of 4", due -> due.due("thing 7", Checks.laid(Edges.EIGHT).thing(7, 4), 3));
        e.edge(6, "BAD.", "what below 0 or above 4", due -> {
            ShakenParcels x = new ShakenParcels();
            due.row("what", all(x.thing(0, -1), x.thing(0, 5), x.thing(1, 5), x.thing(0, LEAST), x.thing(0, MOST)), BAD, BAD, BAD, BAD, BAD);
        });
        e.edge(6, SUCH_AS_THERE_ARE, "things that are not there, for each what", due -> {
            ShakenParcels x = new ShakenParcels();
            for (int what = 0; what <= 4; what++) {
                due.row("what " + what, all(x.thing(-1, what), x.thing(4, what), x.thing(8, what), x.thing(LEAST, what), x.thing(MOST, what)), BAD, BAD, BAD, BAD, BAD);
            }
            ShakenParcels y = Checks.laid(Edges.PAIR);
            due.row("of two", all(y.thing(1, 0), y.thing(2, 0), y.thing(2, 4)), 2, BAD, BAD);
        });
    }

    private static void parcel(Edges e) {
        String words = "Of a PARCEL: box (what = 0), CHILD (1), how many THINGS (2), what is in it in truth, as bits (3), false weight (4).";
        e.edge(7, words, "the highest and the lowest that can be told", due -> {
            ShakenParcels x = Checks.laid("t1,0,0,1;".repeat(8) + "p9,1,2;p0,0,1;i0,6;i0,7;i1,0;");
            due.row("highest", all(x.parcel(0, 0), x.parcel(0, 1), x.parcel(0, 2), x.parcel(0, 3), x.parcel(0, 4)), 9, 1, 2, 192, 0);
            due.row("lowest", all(x.parcel(1, 0), x.parcel(1, 1), x.parcel(1, 2), x.parcel(1, 3), x.parcel(1, 4)), 0, 0, 1, 1, 0);
        });
        e.edge(7, words, "the false weight, 0 to 9, of this parcel alone", due -> {
            ShakenParcels x = new ShakenParcels();
            due.row("put in", all(x.hide(1, 9), x.parcel(1, 4), x.parcel(0, 4), x.hide(1, 0), x.parcel(1, 4)), 0, 9, 0, 9, 0);
            x.hide(1, 5);
            due.row("it changes nothing else", all(x.parcel(1, 0), x.parcel(1, 2), x.parcel(1, 3)), 2, 2, 9);
        });
        e.edge(7, words, "in truth as it is now", due -> {
            ShakenParcels x = Checks.laid(Edges.FOUR);
            due.row("changed", all(x.change(1, 0), x.parcel(0, 3), x.parcel(1, 3), x.parcel(2, 3)), 1, 2, 1, 12);
        });
        e.edge(7, "BAD.", "what below 0 or above 4", due -> {
            ShakenParcels x = new ShakenParcels();
            due.row("what", all(x.parcel(0, -1), x.parcel(0, 5), x.parcel(0, LEAST), x.parcel(0, MOST)), BAD, BAD, BAD, BAD);
        });
        e.edge(7, SUCH_AS_THERE_ARE, "parcels that are not there, for each what", due -> {
            ShakenParcels x = new ShakenParcels();
            for (int what = 0; what <= 4; what++) {
                due.row("what " + what, all(x.parcel(-1, what), x.parcel(2, what), x.parcel(4, what), x.parcel(LEAST, what), x.parcel(MOST, what)), BAD, BAD, BAD, BAD, BAD);
            }
            ShakenParcels y = Checks.laid(Edges.EIGHT);
            due.row("of four", all(y.parcel(3, 0), y.parcel(4, 0)), 9, BAD);
        });
    }

    private static void world(Edges e) {
        String words = "What is in a PARCEL in WORLD number w, as bits.";
        e.edge(8, words, "the first, the last", due -> {
            ShakenParcels x = Checks.laid(Edges.EIGHT);
            due.row("first", all(x.world(0, 0), x.world(0, 1), x.world(0, 2), x.world(0, 3)), 3, 12, 48, 192);
            due.row("last", all(x.world(2519, 0), x.world(2519, 1), x.world(2519, 2), x.world(2519, 3)), 192, 48, 12, 3);
        });
        e.edge(8, words, "answers leave out none", due -> {
            ShakenParcels x = new ShakenParcels();
            x.hear(0, 0, 99);
            due.row("none is LEFT", all(x.left(), x.world(0, 0), x.world(11, 0), x.world(11, 1)), 0, 1, 8, 6);
        });
        e.edge(8, "NONE: there are not so many;", "the number behind the last one", due -> {
            ShakenParcels x = new ShakenParcels();
            due.row("12", all(x.world(11, 1), x.world(12, 0), x.world(12, 1), x.world(13, 0), x.world(MOST, 0)), 6, NONE, NONE, NONE, NONE);
            due.row("1", all(Checks.laid("t1,0,0,1;p0,0,1;i0,0;").world(0, 0), Checks.laid("t1,0,0,1;p0,0,1;i0,0;").world(1, 0)), 1, NONE);
        });
        e.edge(8, "BAD (w below 0, too).", "w below 0", due -> {
            ShakenParcels x = new ShakenParcels();
            due.row("w", all(x.world(-1, 0), x.world(LEAST, 1)), BAD, BAD);
        });
        e.edge(8, "BAD (w below 0, too).", "a parcel that is not there", due -> {
            ShakenParcels x = new ShakenParcels();
            due.row("p", all(x.world(0, -1), x.world(0, 2), x.world(0, 4), x.world(0, LEAST), x.world(0, MOST)), BAD, BAD, BAD, BAD, BAD);
        });
        e.edge(8, "Of several the first", "BAD is ahead of NONE", due -> {
            ShakenParcels x = new ShakenParcels();
            due.row("both", all(x.world(12, 2), x.world(12, -1), x.world(MOST, MOST)), BAD, BAD, BAD);
        });
    }

    private static void order(Edges e) {
        String words = "WORLDS are in order by what is in PARCEL 0 (as bits, the lower first), then in 1, ...";
        e.edge(8, words, "two in a parcel: by bits, not by the lower thing", due -> {
            ShakenParcels x = Checks.laid("t1,0,0,1;".repeat(4) + "p0,0,2;i0,0;i0,1;");
            due.row("sets", all(x.world(0, 0), x.world(1, 0), x.world(2, 0), x.world(3, 0), x.world(4, 0), x.world(5, 0), x.world(6, 0)), 3, 5, 6, 9, 10, 12, NONE);
        });
        e.edge(8, words, "parcel 0 first, then 1, then 2", due -> {
            ShakenParcels x = Checks.laid("t1,0,0,1;".repeat(3) + "p0,0,1;p0,0,1;p0,0,1;i0,2;i1,1;i2,0;");
            int[][] sets = {{1, 2, 4}, {1, 4, 2}, {2, 1, 4}, {2, 4, 1}, {4, 1, 2}, {4, 2, 1}};
            for (int w = 0; w < 6; w++) {
                due.row("world " + w, all(x.world(w, 0), x.world(w, 1), x.world(w, 2)), sets[w][0], sets[w][1], sets[w][2]);
            }
        });
        e.edge(8, words, "each of them once, in this order", due -> {
            ShakenParcels x = Checks.laid("t1,0,0,1;".repeat(5) + "p0,0,2;p0,0,1;p0,0,1;i0,0;i0,1;i1,2;i2,3;");
            long before = -1;
            for (int w = 0; w < 60; w++) {
                long now = x.world(w, 0) * 65536L + x.world(w, 1) * 256L + x.world(w, 2);
                due.holds("world " + w + " is behind the one ahead of it", now > before);
                before = now;
            }
            due.due("no more", x.world(60, 0), NONE);
        });
        e.edge(8, "A WORLD is what is in which PARCEL: in each as many THINGS as told", "in each world", due -> {
            ShakenParcels x = Checks.laid("t1,0,0,1;".repeat(5) + "p0,0,2;p0,0,1;p0,0,1;i0,0;i0,1;i1,2;i2,3;");
            for (int w = 0; w < 60; w++) {
                due.row("world " + w, all(Integer.bitCount(x.world(w, 0)), Integer.bitCount(x.world(w, 1)), Integer.bitCount(x.world(w, 2))), 2, 1, 1);
            }
        });
        e.edge(8, "none in two (nor twice)", "in each world", due -> {
            ShakenParcels x = Checks.laid("t1,0,0,1;".repeat(4) + "p0,0,2;p0,0,2;i0,0;i0,1;i1,2;i1,3;");
            due.due("worlds", x.count(2), 6);
            for (int w = 0; w < 6; w++) {
                due.due("world " + w, x.world(w, 0) & x.world(w, 1), 0);
            }
        });
        e.edge(8, "what both CHILDREN get being no more apart than told.", "those too far apart have no number", due -> {
            ShakenParcels x = Checks.laid("t1,0,5,1;t1,0,1,1;t1,0,1,1;p0,0,1;p0,1,1;i0,1;i1,2;d3;");
            due.row("two", all(x.world(0, 0), x.world(0, 1), x.world(1, 0), x.world(1, 1), x.world(2, 0)), 2, 4, 4, 2, NONE);
        });
    }

    private static void answer(Edges e) {
        String words = "The answer of a trial, were a PARCEL filled with a set of THINGS (whatever it is)";
        e.edge(9, words, "a set of more things than there is room for", due -> {
            ShakenParcels x = Checks.laid("t20,2,0,1;".repeat(8) + "p9,0,1;i0,0;");
            due.row("all of 8", all(x.answer(0, 0, 255), x.answer(0, 1, 255), x.answer(0, 2, 255), x.answer(0, 3, 255)), 169, 2, 8, 0);
        });
        e.edge(9, words, "whatever is in it in truth, in another one, or heard of it", due -> {
            ShakenParcels x = new ShakenParcels();
            x.hear(0, 0, 99);
            due.row("sets", all(x.answer(0, 0, 4), x.answer(0, 0, 1), x.answer(0, 0, 9), x.answer(1, 0, 4)), 3, 3, 6, 3);
        });
        e.edge(9, "nothing put in falsely", "a false weight does not count", due -> {
            ShakenParcels x = new ShakenParcels();
            x.hide(0, 9);
            due.row("weigh", all(x.answer(0, 0, 0), x.answer(0, 0, 4), x.attempt(0, 0)), 0, 3, 7);
        });
        e.edge(9, "(the empty set as well)", "each sort", due -> {
            ShakenParcels x = Checks.laid("t1,3,0,1;t1,0,0,1;p9,0,1;p0,0,1;i0,0;i1,1;g2;");
            due.row("box of 9", all(x.answer(0, 0, 0), x.answer(0, 1, 0), x.answer(0, 2, 0), x.answer(0, 3, 0)), 4, 0, 0, 1);
            due.row("box of 0", all(x.answer(1, 0, 0), x.answer(1, 1, 0), x.answer(1, 2, 0), x.answer(1, 3, 0)), 0, 0, 0, 1);
        });
        e.edge(9, "BAD.", "a set below 0 or with a thing that is not there", due -> {
            ShakenParcels x = new ShakenParcels();
            for (int sort = 0; sort < 4; sort++) {
                due.row("sort " + sort, all(x.answer(0, sort, -1), x.answer(0, sort, 16), x.answer(0, sort, 17), x.answer(0, sort, LEAST), x.answer(0, sort, MOST)),
                        BAD, BAD, BAD, BAD, BAD);
            }
            due.due("all things", x.answer(0, 2, 15), 3);
            ShakenParcels y = Checks.laid(Edges.EIGHT);
            due.row("of 8", all(y.answer(0, 0, 255), y.answer(0, 0, 256)), 8, BAD);
        });
        e.edge(9, SUCH_AS_THERE_ARE, "parcels and sorts that are not there", due -> {
            ShakenParcels x = new ShakenParcels();
            due.row("parcels", all(x.answer(-1, 0, 0), x.answer(2, 0, 0), x.answer(LEAST, 0, 0), x.answer(MOST, 0, 0)), BAD, BAD, BAD, BAD);
            due.row("sorts", all(x.answer(0, -1, 0), x.answer(0, 4, 0), x.answer(0, LEAST, 0), x.answer(0, MOST, 0)), BAD, BAD, BAD, BAD);
        });
    }

    private static void weigh(Edges e) {
        String words = "A trial of a PARCEL is answered: WEIGH: its box, what is in it, together by G, cut;";
        e.edge(9, words, "cut just below a step and at it", due -> {
            ShakenParcels x = Checks.laid("t1,0,0,1;t2,0,0,1;t4,0,0,1;t8,0,0,1;p3,0,1;i0,0;g9;");
            long[] by = new long[16];
            for (int set = 0; set < 16; set++) {
                by[set] = x.answer(0, 0, set);
            }
            due.row("3 to 18 by 9", by, 0, 0, 0, 0, 0, 0, 1, 1, 1, 1, 1, 1, 1, 1, 1, 2);
        });
        e.edge(9, words, "each G from 1 to 9", due -> {
            long[] want = {18, 9, 6, 4, 3, 3, 2, 2, 2};
            for (int g = 1; g <= 9; g++) {
                due.due("18 by " + g, Checks.laid("t9,0,0,1;p9,0,1;i0,0;g" + g + ";").answer(0, 0, 1), want[g - 1]);
            }
        });
        e.edge(9, words, "together, not each by itself", due -> {
            ShakenParcels x = Checks.laid("t1,0,0,1;t1,0,0,1;p1,0,2;p0,0,1;t1,0,0,1;i0,0;i0,1;i1,2;g3;");
            due.row("1 and 1 and 1 by 3", all(x.answer(0, 0, 3), x.answer(0, 0, 1), x.answer(1, 0, 7)), 1, 0, 1);
        });
        e.edge(9, "gG the scale tells weights in steps of G (1 to 9", "weights alone", due -> {
            ShakenParcels x = Checks.laid("t1,1,0,1;t1,2,0,1;p0,0,2;i0,0;i0,1;g9;");
            due.row("other sorts", all(x.answer(0, 1, 3), x.answer(0, 2, 3), x.answer(0, 3, 0)), 3, 2, 1);
        });
    }

    private static void otherSorts(Edges e) {
        String kinds = "t1,0,0,1;t1,1,0,1;t1,2,0,1;t1,3,0,1;t1,0,0,1;t1,1,0,1;t1,2,0,1;t1,3,0,1;p0,0,1;i0,0;";
        e.edge(9, "TIP: 2, if a ROLLING one is in it, and 1, if a SLIDING one is, together;", "none, one, both, several", due -> {
            ShakenParcels x = Checks.laid(kinds);
            due.row("alone", all(x.answer(0, 1, 1), x.answer(0, 1, 2), x.answer(0, 1, 4), x.answer(0, 1, 8)), 0, 1, 2, 0);
            due.row("two alike", all(x.answer(0, 1, 17), x.answer(0, 1, 34), x.answer(0, 1, 68), x.answer(0, 1, 136)), 0, 1, 2, 0);
            due.row("together", all(x.answer(0, 1, 6), x.answer(0, 1, 3), x.answer(0, 1, 12), x.answer(0, 1, 9), x.answer(0, 1, 255)), 3, 1, 2, 0, 3);
        });
        e.edge(9, "SHAKE: how many in it are not SOFT;", "each kind, several", due -> {
            ShakenParcels x = Checks.laid(kinds);
            due.row("alone", all(x.answer(0, 2, 1), x.answer(0, 2, 2), x.answer(0, 2, 4), x.answer(0, 2, 8)), 0, 1, 1, 1);
            due.row("together", all(x.answer(0, 2, 17), x.answer(0, 2, 34), x.answer(0, 2, 14), x.answer(0, 2, 9), x.answer(0, 2, 255)), 0, 2, 3, 1, 6);
        });
        e.edge(9, "PRESS: 1, if all in it are SOFT, else 0.", "each kind, one that is not", due -> {
            ShakenParcels x = Checks.laid(kinds);
            due.row("alone", all(x.answer(0, 3, 1), x.answer(0, 3, 2), x.answer(0, 3, 4), x.answer(0, 3, 8)), 1, 0, 0, 0);
            due.row("together", all(x.answer(0, 3, 17), x.answer(0, 3, 3), x.answer(0, 3, 24), x.answer(0, 3, 20), x.answer(0, 3, 255)), 1, 0, 0, 0, 0);
        });
    }
}
