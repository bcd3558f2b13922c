/** Edges of laying a text: promise 5. */
final class LayEdges {
    private static final int NO = Edges.NO, NONE = Edges.NONE;
    private static final String ABOUT_WORLD = "such that the truth is a WORLD (NO else";

    private LayEdges() { }

    static void tell(Edges e) {
        whatCanBeLaid(e);
        theTruth(e);
        worlds(e);
        fairness(e);
        most(e);
        without(e);
        allBegins(e);
        nothingChanges(e);
    }

    private static long[] all(long... got) {
        return got;
    }

    private static int worlds(String text) {
        return Checks.lay(new ShakenParcels(), text);
    }

    private static void whatCanBeLaid(Edges e) {
        e.edge(5, "LAID is a TEXT without FAULT", "a fault at its end, a fault at its beginning", due -> {
            due.due("without", worlds(Edges.PAIR), 2);
            due.due("at the end", worlds(Edges.PAIR + "g0;"), NO);
            due.due("an item that does not end", worlds(Edges.PAIR + "g1"), NO);
            due.due("at the beginning", worlds("g0;" + Edges.PAIR), NO);
        });
        e.edge(5, "of a PARCEL at least", "none at all", due -> {
            due.due("nothing", worlds(""), NO);
            due.due("a thing", worlds("t1,0,0,1;"), NO);
            due.due("a setting", worlds("g1;d0;n0,0,1;"), NO);
            due.due("a parcel", worlds("t1,0,0,1;p0,0,1;i0,0;"), 1);
        });
        e.edge(5, "LAID: how many WORLDS", "the text stays and can be laid again", due -> {
            ShakenParcels x = new ShakenParcels();
            due.row("again", all(Checks.lay(x, Edges.PAIR), x.count(6), x.lay(), x.count(6), x.fault()), 2, Edges.PAIR.length(), 2, Edges.PAIR.length(), NONE);
        });
    }

    private static void theTruth(Edges e) {
        String two = "t1,0,0,1;t1,0,0,1;";
        e.edge(5, ABOUT_WORLD, "too few in a parcel", due -> {
            due.due("none of one", worlds(two + "p0,0,1;"), NO);
            due.due("one of two", worlds(two + "p0,0,2;i0,0;"), NO);
            due.due("none in the second parcel", worlds(two + "p0,0,1;p0,0,1;i0,0;"), NO);
        });
        e.edge(5, ABOUT_WORLD, "too many in a parcel", due -> {
            due.due("two of one", worlds(two + "p0,0,1;i0,0;i0,1;"), NO);
            due.due("three of two", worlds(two + "t1,0,0,1;p0,0,2;i0,0;i0,1;i0,2;"), NO);
        });
        e.edge(5, "none in two (nor twice)", "a thing told to be in two parcels", due -> {
            due.due("in two", worlds(two + "p0,0,1;p0,0,1;i0,0;i1,0;"), NO);
            due.due("in each its own", worlds(two + "p0,0,1;p0,0,1;i0,0;i1,1;"), 2);
        });
        e.edge(5, "none in two (nor twice)", "a thing told twice fills one place alone", due -> due.due("twice", worlds(two + "p0,0,2;i0,0;i0,0;"), NO));
        e.edge(5, "the same again as well", "it counts once", due -> {
            due.due("of one", worlds(two + "p0,0,1;i0,0;i0,0;"), 2);
            due.due("of two", worlds(two + "p0,0,2;i0,0;i0,1;i0,0;i0,1;"), 1);
        });
        e.edge(5, ABOUT_WORLD, "more room than things", due -> {
            due.due("one for two", worlds("t1,0,0,1;p0,0,2;i0,0;"), NO);
            due.due("one for two parcels", worlds("t1,0,0,1;p0,0,1;p0,0,1;i0,0;"), NO);
            due.due("none", worlds("p0,0,1;"), NO);
        });
    }

    private static void worlds(Edges e) {
        String words = "A WORLD is what is in which PARCEL: in each as many THINGS as told";
        e.edge(5, words, "how many there are", due -> {
            String five = "t1,0,0,1;".repeat(5);
            due.due("one of 5", worlds(five + "p0,0,1;i0,0;"), 5);
            due.due("two of 5", worlds(five + "p0,0,2;i0,0;i0,1;"), 10);
            due.due("two, one of 5", worlds(five + "p0,0,2;p0,0,1;i0,0;i0,1;i1,2;"), 30);
            due.due("one, two of 5", worlds(five + "p0,0,1;p0,0,2;i0,0;i1,1;i1,2;"), 30);
            due.due("one, one, two of 5", worlds(five + "p0,0,1;p0,0,1;p0,0,2;i0,0;i1,1;i2,2;i2,3;"), 60);
        });
        e.edge(5, words, "things that are alike are still two", due -> due.due("twins", worlds(Edges.TWINS), 2));
        e.edge(5, words, "all things are in parcels", due -> due.due("one world", worlds("t1,0,0,1;t1,0,0,1;p0,0,2;i0,0;i0,1;"), 1));
        e.edge(5, "LAID: how many WORLDS", "from 1 to 5040", due -> {
            ShakenParcels x = new ShakenParcels();
            due.due("least", Checks.lay(x, "t1,0,0,1;p0,0,1;i0,0;"), 1);
            String most = "t1,0,0,1;".repeat(8) + "p0,0,2;p0,0,2;p0,0,1;p0,1,2;i0,0;i0,1;i1,2;i1,3;i2,4;i3,5;i3,6;";
            due.row("most", all(Checks.lay(x, most), x.left(), x.count(2)), 5040, 5040, 5040);
        });
        e.edge(5, "LAID: how many WORLDS", "fewer again behind many", due -> {
            ShakenParcels x = Checks.laid(Edges.EIGHT);
            due.row("fewer", all(x.left(), Checks.lay(x, Edges.PAIR), x.left(), x.world(1, 0), x.world(2, 0)), 2520, 2, 2, 2, NONE);
        });
    }

    private static void fairness(Edges e) {
        String apart = "t1,0,9,1;t1,2,0,1;p0,0,1;p0,1,1;i0,0;i1,1;";
        e.edge(5, "what both CHILDREN get being no more apart than told.", "just as far, one further", due -> {
            due.due("9 of 9", worlds(apart + "d9;"), 2);
            due.due("9 of 8", worlds(apart + "d8;"), NO);
            due.due("CHILD 1 gets more", worlds(apart.replace("i0,0;i1,1;", "i0,1;i1,0;") + "d8;"), NO);
            due.due("CHILD 1 gets just more", worlds(apart.replace("i0,0;i1,1;", "i0,1;i1,0;") + "d9;"), 2);
        });
        e.edge(5, "dD what both CHILDREN get is worth no more than D (0 to 40) apart", "0 is told, too", due -> {
            String text = "t1,0,4,1;t1,0,4,1;t1,0,5,1;p0,0,1;p0,1,1;i0,0;i1,1;";
            due.due("as much alone", worlds(text + "d0;"), 2);
            due.due("1 apart", worlds(text + "d1;"), 6);
        });
        e.edge(5, "what both CHILDREN get being no more apart than told.", "worlds that are too far apart are none", due -> {
            String text = "t1,0,1,1;t1,2,1,1;t1,0,5,1;p0,0,1;p0,1,1;i0,0;i1,1;";
            due.due("4 of 3", worlds(text + "d3;"), 2);
            due.due("4 of 4", worlds(text + "d4;"), 6);
        });
        e.edge(5, "if both have PARCELS", "one child alone is never unfair", due -> {
            String alone = "t1,0,9,1;t1,2,0,1;p0,%d,1;p0,%d,1;i0,0;i1,1;d0;";
            due.due("0 alone", worlds(String.format(alone, 0, 0)), 2);
            due.due("1 alone", worlds(String.format(alone, 1, 1)), 2);
            due.due("both", worlds(String.format(alone, 0, 1)), NO);
            due.due("both the other way", worlds(String.format(alone, 1, 0)), NO);
        });
        e.edge(5, "what both CHILDREN get being no more apart than told.", "things in no parcel do not count", due ->
                due.due("9 is not given", worlds("t1,0,2,1;t1,0,2,1;t1,0,9,1;p0,0,1;p0,1,1;i0,0;i1,1;d0;"), 2));
    }

    private static void most(Edges e) {
        e.edge(5, "8 at most, 0, 1, ..", "each of 8 has its number by its place", due -> {
            StringBuilder text = new StringBuilder();
            for (int t = 0; t < 8; t++) {
                text.append("t").append(t + 1).append(",0,0,1;");
            }
            ShakenParcels x = Checks.laid(text + "p0,0,1;i0,7;");
            for (int t = 0; t < 8; t++) {
                due.due("weight of " + t, x.thing(t, 0), t + 1);
            }
            due.row("the last", all(x.count(0), x.parcel(0, 3), x.thing(8, 0)), 8, 128, Edges.BAD);
        });
        e.edge(5, "4 at most, 0, 1, ..", "each of 4 has its number by its place", due -> {
            ShakenParcels x = Checks.laid("p1,0,1;t1,0,0,1;p2,0,1;t1,0,0,1;p3,0,1;t1,0,0,1;p4,0,1;t1,0,0,1;i0,0;i1,1;i2,2;i3,3;");
            for (int p = 0; p < 4; p++) {
                due.row("parcel " + p, all(x.parcel(p, 0), x.parcel(p, 3)), p + 1, 1 << p);
            }
            due.row("the last", all(x.count(1), x.parcel(4, 0)), 4, Edges.BAD);
        });
        e.edge(5, "iP,T in truth THING T is in PARCEL P", "in any order, among others", due -> {
            ShakenParcels x = Checks.laid("t1,0,0,1;p0,0,1;i0,0;t1,0,0,1;g3;p0,1,2;t1,0,0,1;i1,2;d1;i1,1;");
            due.row("the truth", all(x.parcel(0, 3), x.parcel(1, 3)), 1, 6);
        });
    }

    private static void without(Edges e) {
        e.edge(5, "1 without; the last one)", "without one", due -> {
            ShakenParcels x = new ShakenParcels();
            Checks.lay(x, Edges.PAIR);
            due.row("steps of 1, not of 2 as before", all(x.answer(0, 0, 1), x.answer(0, 0, 2), x.answer(0, 0, 3)), 1, 2, 3);
        });
        e.edge(5, "1 without; the last one)", "the last of several", due -> {
            due.due("3 behind 9", Checks.laid("g9;" + Edges.PAIR + "g3;").answer(0, 0, 3), 1);
            due.due("9 behind 3", Checks.laid("g3;" + Edges.PAIR + "g9;").answer(0, 0, 3), 0);
        });
        String most = "t1,0,9,1;t1,0,9,1;t1,0,9,1;t1,0,9,1;t1,0,%d,1;t1,0,0,1;t1,0,0,1;p0,0,2;p0,0,2;p0,0,2;p0,1,1;"
                + "i0,0;i0,1;i1,2;i1,3;i2,4;i2,5;i3,6;";
        e.edge(5, "40 without; the last one)", "without one", due -> {
            // 36 and 4, or 5, for one child, 0 for the other one
            due.due("40 apart", worlds(String.format(most, 4)), 630);
            due.due("41 apart", worlds(String.format(most, 5)), NO);
            due.due("not 5 as before", worlds("t1,0,9,1;t1,0,0,1;p0,0,1;p0,1,1;i0,0;i1,1;"), 2);
        });
        e.edge(5, "40 without; the last one)", "the last of several", due -> {
            String apart = "t1,0,9,1;t1,0,0,1;p0,0,1;p0,1,1;i0,0;i1,1;";
            due.due("9 behind 0", worlds("d0;" + apart + "d9;"), 2);
            due.due("0 behind 9", worlds("d9;" + apart + "d0;"), NO);
        });
        e.edge(5, "(without: 0, 10; the last one of each)", "without one", due -> {
            ShakenParcels x = new ShakenParcels();
            Checks.lay(x, Edges.PAIR);
            for (int sort = 0; sort < 4; sort++) {
                x.attempt(0, sort);
                due.row("sort " + sort, all(x.risk(0), x.risk(1), x.seconds()), 0, 1, 10 * (sort + 1));
            }
        });
        e.edge(5, "(without: 0, 10; the last one of each)", "the last of each sort, others as they were", due -> {
            ShakenParcels x = Checks.laid("n0,9,60;n1,5,7;" + Edges.PAIR + "n0,5,1;");
            due.row("sort 0", all(x.attempt(0, 0), x.risk(0), x.risk(1), x.seconds()), 1, 1, 2, 1);
            x.undo();
            due.row("sort 1", all(x.attempt(0, 1), x.risk(0), x.risk(1), x.seconds()), 0, 1, 2, 7);
            x.undo();
            due.row("sort 2", all(x.attempt(0, 2), x.risk(0), x.risk(1), x.seconds()), 0, 0, 1, 10);
        });
    }

    private static void allBegins(Edges e) {
        String words = "no ANSWERS, nothing put in falsely, UNDONE, KEPT.";
        e.edge(5, words, "no answers", due -> {
            ShakenParcels x = Checks.laid(Edges.PAIR);
            x.hear(0, 0, 99);
            due.row("then", all(x.left(), x.lay(), x.count(3), x.left(), x.judge(), x.seconds()), 0, 2, 0, 2, NONE, 0);
        });
        e.edge(5, words, "nothing put in falsely", due -> {
            ShakenParcels x = Checks.laid(Edges.PAIR);
            x.hide(0, 9);
            due.row("then", all(x.lay(), x.parcel(0, 4), x.attempt(0, 0)), 2, 0, 1);
        });
        e.edge(5, words, "nothing to be undone", due -> {
            ShakenParcels x = Checks.laid(Edges.PAIR);
            x.hide(0, 9);
            due.row("then", all(x.lay(), x.count(4), x.undo(), x.parcel(0, 4)), 2, 0, NO, 0);
        });
        e.edge(5, words, "nothing kept", due -> {
            ShakenParcels x = Checks.laid(Edges.PAIR);
            x.keep();
            x.keep();
            due.row("then", all(x.lay(), x.count(5), x.back(), x.keep()), 2, 0, NO, 1);
        });
        e.edge(5, "iP,T in truth THING T is in PARCEL P", "what was changed is as told again", due -> {
            ShakenParcels x = Checks.laid(Edges.FOUR);
            due.row("then", all(x.change(0, 1), x.lay(), x.parcel(0, 3), x.parcel(1, 3)), 2, 12, 1, 2);
        });
    }

    private static void nothingChanges(Edges e) {
        e.edge(5, "LAID: how many WORLDS", "nothing of the trees that were is left, however many there were", due -> {
            ShakenParcels x = new ShakenParcels();
            for (int many = 1; many <= 3; many++) {
                for (int i = 0; i < many; i++) {
                    due.due("firm things", Checks.lay(x, "t9,1,9,9;t9,2,9,9;p9,1,2;i0,0;i0,1;g9;n0,9,60;n1,9,60;"), 1);
                }
                due.due("soft ones", Checks.lay(x, Edges.PAIR), 2);
                due.row("their answers", all(x.answer(0, 0, 3), x.answer(0, 1, 3), x.answer(0, 2, 3), x.answer(0, 3, 3)), 3, 0, 0, 1);
                x.attempt(0, 0);
                x.attempt(0, 1);
                due.row("their sorts", all(x.risk(0), x.risk(1), x.seconds()), 0, 1, 20);
            }
        });
        e.edge(5, "KEPT. NO.", "what was laid stays, with all that was done", due -> {
            ShakenParcels x = new ShakenParcels();
            x.attempt(1, 0);
            x.hide(1, 3);
            x.keep();
            due.due("no truth", Checks.lay(x, "t1,1,1,1;p9,0,1;g9;n0,9,60;"), NO);
            due.row("counts", Edges.counts(x), 4, 2, 12, 1, 2, 1, 27);
            due.row("the tree", all(x.parcel(0, 0), x.thing(0, 0), x.answer(0, 0, 1), x.risk(0), x.seconds()), 1, 5, 3, 1, 20);
            due.row("what was done", all(x.parcel(1, 4), x.left(), x.undo(), x.back(), x.parcel(1, 4)), 3, 4, 1, 0, 3);
        });
        e.edge(5, "KEPT. NO.", "the text stays", due -> {
            ShakenParcels x = new ShakenParcels();
            due.row("then", all(Checks.lay(x, "t1,0,0,1;p0,0,1;"), x.count(6), x.fault()), NO, 16, NONE);
            Checks.write(x, "i0,0;");
            due.due("and can be written on", x.lay(), 1);
        });
    }
}
