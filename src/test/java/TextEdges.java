/** Edges of a new object and of writing: promises 1 to 3. */
final class TextEdges {
    private static final int BAD = Edges.BAD, NO = Edges.NO, FULL = Edges.FULL, NONE = Edges.NONE;
    private static final String AT_FIRST = "at first t5,0,3,4;t9,1,3,2;t5,2,4,1;t7,3,2,3;p1,0,1;p2,1,2;i0,2;i1,0;i1,3;g2;d5;n0,1,20;n2,3,5;";
    /** As long as can be; a ; more would end its last item well. */
    private static final String LONGEST = "g1;".repeat(66) + "g1";

    private TextEdges() { }

    static void tell(Edges e) {
        aNewObject(e);
        theFirstTree(e);
        letters(e);
        theText(e);
        wipe(e);
    }

    private static long[] all(long... got) {
        return got;
    }

    private static void aNewObject(Edges e) {
        e.edge(1, "As told.", "no text, no answers, nothing to undo, nothing kept, nothing put in falsely", due -> {
            ShakenParcels x = new ShakenParcels();
            due.row("counts", Edges.counts(x), 4, 2, 12, 0, 0, 0, 0);
            due.row("nothing there", all(x.fault(), x.undo(), x.back(), x.judge(), x.seconds(), x.risk(0)), NONE, NO, NO, NONE, 0, 0);
            due.row("false weights", all(x.parcel(0, 4), x.parcel(1, 4)), 0, 0);
        });
        e.edge(1, "As told.", "each object by itself", due -> {
            ShakenParcels x = new ShakenParcels();
            ShakenParcels y = new ShakenParcels();
            x.write('t');
            x.attempt(0, 0);
            x.hide(0, 9);
            x.keep();
            due.row("the other one", Edges.counts(y), 4, 2, 12, 0, 0, 0, 0);
            due.due("its false weight", y.parcel(0, 4), 0);
            Checks.lay(x, Edges.PAIR);
            due.row("the other one again", Edges.counts(y), 4, 2, 12, 0, 0, 0, 0);
        });
        e.edge(1, "An object is used for at most 512 calls after it has been made; what later calls answer is free.", "the 512th is answered as due", due -> {
            ShakenParcels x = new ShakenParcels();
            for (int i = 0; i < 255; i++) {
                due.due("attempt", x.attempt(1, 0), 7);
                due.due("undo", x.undo(), 0);
            }
            x.attempt(1, 0);
            due.due("call 512", x.left(), 4);
        });
    }

    private static void theFirstTree(Edges e) {
        e.edge(1, AT_FIRST, "its things and parcels", due -> {
            ShakenParcels x = new ShakenParcels();
            long[][] things = {{5, 0, 3, 4, 1}, {9, 1, 3, 2, NONE}, {5, 2, 4, 1, 0}, {7, 3, 2, 3, 1}};
            for (int t = 0; t < 4; t++) {
                due.row("thing " + t, all(x.thing(t, 0), x.thing(t, 1), x.thing(t, 2), x.thing(t, 3), x.thing(t, 4)), things[t]);
            }
            due.row("parcel 0", all(x.parcel(0, 0), x.parcel(0, 1), x.parcel(0, 2), x.parcel(0, 3)), 1, 0, 1, 4);
            due.row("parcel 1", all(x.parcel(1, 0), x.parcel(1, 1), x.parcel(1, 2), x.parcel(1, 3)), 2, 1, 2, 9);
        });
        e.edge(1, AT_FIRST, "its scale and its sorts", due -> {
            long[][] sorts = {{1, 10, 20}, {0, 1, 10}, {3, 10, 5}, {0, 1, 10}};
            for (int sort = 0; sort < 4; sort++) {
                ShakenParcels x = new ShakenParcels();
                x.attempt(0, sort);
                due.row("sort " + sort, all(x.risk(0), x.risk(1), x.seconds()), sorts[sort]);
            }
            ShakenParcels x = new ShakenParcels();
            due.row("steps of 2", all(x.answer(0, 0, 1), x.answer(1, 0, 1), x.answer(1, 0, 3)), 3, 3, 8);
        });
        e.edge(1, AT_FIRST, "5 apart is just enough for all its worlds", due -> {
            String text = Model.FIRST.replace("d5;", "d4;");
            due.row("worlds", all(new ShakenParcels().count(2), Checks.laid(Model.FIRST).count(2), Checks.laid(text).count(2)), 12, 12, 10);
        });
    }

    private static void letters(Edges e) {
        String words = "A letter (32 to 126, as in ASCII)";
        e.edge(2, words, "31 is BAD, 32 is a letter", due -> {
            ShakenParcels x = new ShakenParcels();
            due.row("lowest", all(x.write(31), x.count(6), x.write(32), x.count(6)), BAD, 0, 1, 1);
        });
        e.edge(2, words, "126 is a letter, 127 is BAD", due -> {
            ShakenParcels x = new ShakenParcels();
            due.row("highest", all(x.write(127), x.count(6), x.write(126), x.count(6)), BAD, 0, 1, 1);
        });
        e.edge(2, words, "each of them is a letter", due -> {
            ShakenParcels x = new ShakenParcels();
            for (int letter = 32; letter <= 126; letter++) {
                due.due("write " + letter, x.write(letter), letter - 31);
            }
        });
        e.edge(2, words, "numbers that are letters only when cut short are BAD", due -> {
            ShakenParcels x = new ShakenParcels();
            int[] odd = {-1, 0, 128, 255, 256 + 't', 65536 + 't', 't' - 256, 't' - 65536, Edges.LEAST, Edges.LEAST + 't', Edges.MOST};
            for (int letter : odd) {
                due.row("write " + letter, all(x.write(letter), x.count(6)), BAD, 0);
            }
        });
    }

    private static void theText(Edges e) {
        e.edge(2, "comes behind THE TEXT", "in the order in which they are written", due -> {
            ShakenParcels x = new ShakenParcels();
            Checks.write(x, "g1;");
            due.due("behind each other", x.fault(), NONE);
            Checks.write(x, "g1");
            due.due("behind what is there", x.fault(), 3);
            Checks.write(x, ";");
            due.due("behind it again", x.fault(), NONE);
        });
        e.edge(2, "how long it is.", "from 1 on", due -> {
            ShakenParcels x = new ShakenParcels();
            due.row("length", all(x.write('a'), x.write('a'), x.write('b'), x.count(6)), 1, 2, 3, 3);
        });
        e.edge(2, "A TEXT is letters (200 at most)", "the 200th comes, the 201st is FULL", due -> {
            ShakenParcels x = new ShakenParcels();
            due.due("199", Checks.write(x, "x".repeat(199)), 199);
            due.row("from there", all(x.write('x'), x.write('x'), x.write('x'), x.count(6)), 200, FULL, FULL, 200);
        });
        e.edge(2, "BAD; FULL.", "a letter that is FULL does not come", due -> {
            ShakenParcels x = new ShakenParcels();
            Checks.write(x, LONGEST);
            due.row("without an end", all(x.fault(), x.write(';'), x.fault(), x.count(6)), 198, FULL, 198, 200);
            ShakenParcels y = new ShakenParcels();
            Checks.write(y, "d40;".repeat(50));
            due.row("nor in place of the last one", all(y.write('x'), y.fault(), y.count(6)), FULL, NONE, 200);
        });
        e.edge(2, "BAD; FULL.", "a letter that is BAD does not come", due -> {
            ShakenParcels x = new ShakenParcels();
            due.row("between letters", all(x.write('g'), x.write(127), x.write('1'), x.write(31), x.write(';'), x.fault()), 1, BAD, 2, BAD, 3, NONE);
        });
        e.edge(2, "BAD; FULL.", "BAD is ahead of FULL", due -> {
            ShakenParcels x = new ShakenParcels();
            Checks.write(x, LONGEST);
            due.row("full", all(x.write(31), x.write(127), x.write(Edges.LEAST), x.write(32)), BAD, BAD, BAD, FULL);
        });
    }

    private static void wipe(Edges e) {
        e.edge(3, "THE TEXT is empty", "it is written anew from its first place", due -> {
            ShakenParcels x = new ShakenParcels();
            Checks.write(x, "zzz");
            x.wipe();
            due.row("nothing is left", all(x.count(6), x.fault(), x.lay()), 0, NONE, NO);
            due.row("anew", all(x.write('g'), x.write('1'), x.write(';'), x.fault()), 1, 2, 3, NONE);
        });
        e.edge(3, "THE TEXT is empty", "a shorter text is not followed by what was", due -> {
            ShakenParcels x = new ShakenParcels();
            Checks.write(x, "g1;g1;");
            x.wipe();
            Checks.write(x, "g1");
            due.due("without its end", x.fault(), 0);
        });
        e.edge(3, "THE TEXT is empty", "what is laid stays as it is", due -> {
            ShakenParcels x = Checks.laid(Edges.PAIR);
            x.attempt(0, 0);
            x.keep();
            due.due("wipe", x.wipe(), Edges.PAIR.length());
            due.row("counts", Edges.counts(x), 2, 1, 2, 1, 1, 1, 0);
        });
        e.edge(3, "THE TEXT is empty", "a full one takes letters again", due -> {
            ShakenParcels x = new ShakenParcels();
            Checks.write(x, LONGEST);
            due.row("again", all(x.write('g'), x.wipe(), x.write('g'), x.fault()), FULL, 200, 1, 0);
        });
        e.edge(3, "how long it was.", "none, one, all", due -> {
            ShakenParcels x = new ShakenParcels();
            due.row("wipe", all(x.wipe(), x.write('x'), x.wipe(), x.wipe()), 0, 1, 1, 0);
            Checks.write(x, LONGEST);
            due.row("wipe 200", all(x.wipe(), x.wipe()), 200, 0);
        });
    }
}
