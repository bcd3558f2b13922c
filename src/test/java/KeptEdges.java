/** Edges of keeping and counting: promises 29 to 31. */
final class KeptEdges {
    private static final int BAD = Edges.BAD, NO = Edges.NO, FULL = Edges.FULL, LEAST = Edges.LEAST, MOST = Edges.MOST;
    private static final String KEPT = "KEPT are the truth, false weights, ANSWERS: 2 at most.";

    private KeptEdges() { }

    static void tell(Edges e) {
        keep(e);
        whatIsKept(e);
        back(e);
        backRefused(e);
        count(e);
    }

    private static long[] all(long... got) {
        return got;
    }

    private static void keep(Edges e) {
        e.edge(29, "KEPT: how many. FULL.", "1, 2, then FULL", due -> {
            ShakenParcels x = new ShakenParcels();
            due.row("keep", all(x.keep(), x.keep(), x.keep(), x.keep(), x.count(5)), 1, 2, FULL, FULL, 2);
        });
        e.edge(29, KEPT, "one that is FULL is not kept in place of another", due -> {
            ShakenParcels x = new ShakenParcels();
            x.hide(0, 1);
            x.keep();
            x.hide(0, 2);
            x.keep();
            x.hide(0, 3);
            due.row("the first two", all(x.keep(), x.back(), x.parcel(0, 4), x.back(), x.parcel(0, 4), x.back()), FULL, 1, 2, 0, 1, NO);
        });
        e.edge(29, KEPT, "there is room again behind back", due -> {
            ShakenParcels x = new ShakenParcels();
            due.row("again", all(x.keep(), x.keep(), x.keep(), x.back(), x.keep(), x.keep(), x.back(), x.back(), x.back()), 1, 2, FULL, 1, 2, FULL, 1, 0, NO);
        });
        e.edge(29, "KEPT: how many. FULL.", "it is none of what can be undone, and takes nothing from it", due -> {
            ShakenParcels x = new ShakenParcels();
            due.row("undo", all(x.hide(0, 4), x.keep(), x.count(4), x.undo(), x.parcel(0, 4), x.count(5)), 0, 1, 1, 0, 0, 1);
        });
        e.edge(29, "FULL. Of several the first", "with nothing done, with all done that can be", due -> {
            ShakenParcels x = new ShakenParcels();
            due.due("nothing done", x.keep(), 1);
            for (int i = 0; i < 12; i++) {
                x.attempt(0, 0);
            }
            due.row("all done", all(x.keep(), x.attempt(0, 0), x.keep()), 2, FULL, FULL);
        });
    }

    private static void whatIsKept(Edges e) {
        e.edge(30, KEPT, "the truth", due -> {
            ShakenParcels x = Checks.laid(Edges.FOUR);
            x.keep();
            due.row("changed, then as it was", all(x.change(0, 1), x.back(), x.parcel(0, 3), x.parcel(1, 3)), 2, 0, 1, 2);
        });
        e.edge(30, KEPT, "false weights", due -> {
            ShakenParcels x = Checks.laid(Edges.EIGHT);
            x.hide(0, 1);
            x.hide(3, 4);
            x.keep();
            x.hide(0, 9);
            x.hide(3, 0);
            x.hide(1, 7);
            due.row("as they were", all(x.back(), x.parcel(0, 4), x.parcel(1, 4), x.parcel(2, 4), x.parcel(3, 4)), 0, 1, 0, 0, 4);
        });
        e.edge(30, KEPT, "ANSWERS, more again and fewer again", due -> {
            ShakenParcels x = new ShakenParcels();
            x.attempt(1, 0);
            x.keep();
            x.hear(0, 0, 99);
            due.row("fewer", all(x.left(), x.back(), x.count(3), x.left(), x.judge(), x.seconds()), 0, 0, 1, 4, Edges.NONE, 20);
            x.hear(0, 0, 99);
            x.keep();
            x.undo();
            due.row("more", all(x.left(), x.back(), x.count(3), x.left(), x.judge(), x.seconds()), 4, 0, 2, 0, 1, 40);
        });
        e.edge(30, KEPT, "ANSWERS, another first one meanwhile", due -> {
            ShakenParcels x = new ShakenParcels();
            x.hear(0, 0, 5);
            x.keep();
            x.undo();
            x.hear(0, 1, 2);
            due.row("the other one", all(x.sure(0, false), x.seconds(), x.risk(1)), 4, 10, 1);
            due.row("the first one", all(x.back(), x.sure(0, false), x.seconds(), x.risk(1)), 0, 2, 20, 10);
        });
        e.edge(30, KEPT, "12 answers, each as it was", due -> {
            ShakenParcels x = new ShakenParcels();
            for (int i = 0; i < 11; i++) {
                x.attempt(0, 0);
            }
            x.hear(0, 1, 1);
            x.keep();
            for (int i = 0; i < 8; i++) {
                x.undo();
            }
            for (int i = 0; i < 8; i++) {
                x.attempt(0, 3);
            }
            due.row("others", all(x.count(3), x.seconds(), x.judge()), 12, 160, Edges.NONE);
            due.row("as they were", all(x.back(), x.count(3), x.seconds(), x.judge(), x.left()), 0, 12, 230, 11, 0);
        });
        e.edge(30, KEPT, "not the text", due -> {
            ShakenParcels x = new ShakenParcels();
            x.write('g');
            x.keep();
            x.write('1');
            due.row("it stays", all(x.back(), x.count(6), x.wipe()), 0, 2, 2);
        });
    }

    private static void back(Edges e) {
        e.edge(30, "As KEPT last: how many are left;", "the last first", due -> {
            ShakenParcels x = new ShakenParcels();
            x.hide(0, 1);
            x.keep();
            x.hide(0, 2);
            x.keep();
            x.hide(0, 3);
            due.row("back", all(x.back(), x.parcel(0, 4), x.count(5), x.back(), x.parcel(0, 4), x.count(5)), 1, 2, 1, 0, 1, 0);
        });
        e.edge(30, "As KEPT last: how many are left;", "what was done after keeping does not reach what is kept", due -> {
            ShakenParcels x = new ShakenParcels();
            x.keep();
            x.hide(0, 5);
            x.attempt(0, 0);
            x.undo();
            x.undo();
            x.hide(1, 6);
            due.row("back", all(x.back(), x.parcel(0, 4), x.parcel(1, 4), x.count(3)), 0, 0, 0, 0);
        });
        e.edge(30, "nothing is UNDONE then.", "nothing can be undone, neither what was ahead nor what was behind", due -> {
            ShakenParcels x = new ShakenParcels();
            x.hide(0, 1);
            x.keep();
            x.hide(0, 2);
            due.row("back", all(x.count(4), x.back(), x.count(4), x.undo(), x.parcel(0, 4)), 2, 0, 0, NO, 1);
        });
        e.edge(30, "nothing is UNDONE then.", "what is done then can be undone", due -> {
            ShakenParcels x = new ShakenParcels();
            x.hide(0, 1);
            x.keep();
            x.back();
            due.row("anew", all(x.hide(0, 7), x.count(4), x.undo(), x.parcel(0, 4), x.undo()), 1, 1, 0, 1, NO);
        });
    }

    private static void backRefused(Edges e) {
        e.edge(30, "nothing is UNDONE then. NO.", "nothing is kept", due -> {
            ShakenParcels x = new ShakenParcels();
            due.row("none", all(x.back(), x.keep(), x.back(), x.back(), x.count(5)), NO, 1, 0, NO, 0);
        });
        e.edge(30, "nothing is UNDONE then. NO.", "what can be undone stays so", due -> {
            ShakenParcels x = new ShakenParcels();
            due.row("undo", all(x.hide(0, 3), x.attempt(0, 0), x.back(), x.count(4), x.count(3), x.parcel(0, 4), x.undo(), x.undo(), x.parcel(0, 4)), 0, 4, NO, 2, 1, 3, 1, 0, 0);
        });
        e.edge(30, "NO: not as things stand.", "laying keeps nothing", due -> {
            ShakenParcels x = Checks.laid(Edges.PAIR);
            due.row("laid", all(x.keep(), x.lay(), x.back()), 1, 2, NO);
        });
    }

    private static void count(Edges e) {
        String words = "How many: 0 THINGS, 1 PARCELS, 2 WORLDS, 3 ANSWERS, 4 that can be UNDONE, 5 KEPT, 6 letters of THE TEXT.";
        e.edge(31, words, "the most of each", due -> {
            String most = "t1,0,0,1;".repeat(8) + "p0,0,2;p0,0,2;p0,0,1;p0,1,2;i0,0;i0,1;i1,2;i1,3;i2,4;i3,5;i3,6;";
            ShakenParcels x = Checks.laid(most);
            Checks.write(x, "z".repeat(201 - most.length()));
            for (int i = 0; i < 13; i++) {
                x.attempt(0, 0);
                x.keep();
            }
            due.row("most", Edges.counts(x), 8, 4, 5040, 12, 8, 2, 200);
        });
        e.edge(31, words, "the least of each", due -> {
            ShakenParcels x = Checks.laid("t1,0,0,1;p0,0,1;i0,0;");
            x.wipe();
            due.row("least", Edges.counts(x), 1, 1, 1, 0, 0, 0, 0);
        });
        e.edge(31, words, "WORLDS are all of them, not those LEFT", due -> {
            ShakenParcels x = new ShakenParcels();
            x.hear(0, 0, 99);
            due.row("all", all(x.left(), x.count(2)), 0, 12);
        });
        e.edge(31, words, "what is written is not laid yet", due -> {
            ShakenParcels x = new ShakenParcels();
            Checks.write(x, Edges.PAIR);
            due.row("written", Edges.counts(x), 4, 2, 12, 0, 0, 0, Edges.PAIR.length());
            x.lay();
            due.row("laid", Edges.counts(x), 2, 1, 2, 0, 0, 0, Edges.PAIR.length());
        });
        e.edge(31, "BAD.", "what below 0 or above 6", due -> {
            ShakenParcels x = new ShakenParcels();
            due.row("what", all(x.count(-1), x.count(7), x.count(LEAST), x.count(MOST)), BAD, BAD, BAD, BAD);
        });
    }
}
