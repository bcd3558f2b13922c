/** Edges of what a text may say: promise 4. */
final class FaultEdges {
    private static final int NONE = Edges.NONE;
    private static final String TOLD = "t1,0,0,1;p0,0,1;";

    private FaultEdges() { }

    static void tell(Edges e) {
        places(e);
        form(e);
        signs(e);
        things(e);
        parcels(e);
        truth(e);
        scaleAndApart(e);
        sorts(e);
    }

    private static void fault(Checks due, String text, int place) {
        ShakenParcels x = new ShakenParcels();
        Checks.write(x, text);
        due.due("fault of " + text, x.fault(), place);
    }

    /** One number of an item: the lowest and the highest that it may be, and those beside them. */
    private static void range(Checks due, String item, int low, int high) {
        for (int number = 0; number <= 99; number++) {
            fault(due, String.format(item, number), low <= number && number <= high ? NONE : 0);
        }
    }

    /** An item has as many numbers as told, not one fewer, not one more. */
    private static void numbers(Checks due, String letter, int wanted) {
        for (int many = 0; many <= 6; many++) {
            String text = letter + "1,".repeat(Math.max(0, many - 1)) + (many > 0 ? "1;" : ";");
            fault(due, text, many == wanted ? NONE : 0);
        }
    }

    private static void places(Edges e) {
        String words = "FAULT: the place of the first letter of the first ITEM that is not so.";
        e.edge(4, words, "the first of several", due -> {
            fault(due, "g1;g0;g0;", 3);
            fault(due, "g0;g0;g1;", 0);
            fault(due, "d1;d2;d3;d41;x;", 9);
        });
        e.edge(4, words, "the place of the item, not of what is wrong in it", due -> {
            fault(due, "g1;t1,0,0,10;", 3);
            fault(due, "g1;t1,0,0,1", 3);
            fault(due, "g1;n0,0,1 ;", 3);
        });
        e.edge(4, words, "the last place at which one can be", due -> {
            fault(due, "g1;".repeat(66) + "g", 198);
            fault(due, "g1;".repeat(65) + "g01;" + "x", 199);
        });
        e.edge(4, words, "what is told behind a fault does not mend it", due -> {
            fault(due, "i0,0;" + TOLD, 0);
            fault(due, "g1", 0);
        });
        e.edge(4, "FAULT. NONE.", "none of an empty text, none of a whole one of 200 letters", due -> {
            fault(due, "", NONE);
            fault(due, "g1;".repeat(65) + "d40;", NONE);
            fault(due, "g1;".repeat(64) + "d40;d40;", NONE);
            fault(due, "d40;".repeat(50), NONE);
        });
        e.edge(4, "FAULT. NONE.", "nothing changes by asking", due -> {
            ShakenParcels x = new ShakenParcels();
            Checks.write(x, "t9,0,0,1;p9,1,1;i0,0;g9;g0;");
            due.row("twice", Edges.all(x.fault(), x.fault(), x.count(6)), 24, 24, 27);
            due.row("the tree", Edges.all(x.count(0), x.count(1), x.parcel(0, 0), x.answer(0, 0, 1), x.left()), 4, 2, 1, 3, 12);
        });
    }

    private static void form(Edges e) {
        e.edge(4, "then numbers (one or two figures)", "no figure, three figures", due -> {
            fault(due, "d;", 0);
            fault(due, "d1;d01;d10;d00;", NONE);
            fault(due, "d001;", 0);
            fault(due, "d100;", 0);
            fault(due, "d0000;", 0);
        });
        e.edge(4, "then numbers (one or two figures)", "of each number in an item", due -> {
            fault(due, "t01,00,09,01;", NONE);
            fault(due, "t001,0,0,1;", 0);
            fault(due, "t1,000,0,1;", 0);
            fault(due, "t1,0,000,1;", 0);
            fault(due, "t1,0,0,001;", 0);
            fault(due, "t,0,0,1;", 0);
            fault(due, "t1,,0,1;", 0);
            fault(due, "t1,0,,1;", 0);
            fault(due, "t1,0,0,;", 0);
        });
        e.edge(4, "and a ; behind the last one", "the text ends ahead of it", due -> {
            fault(due, "g", 0);
            fault(due, "g1", 0);
            fault(due, "d40", 0);
            fault(due, "t1,0,0,1", 0);
            fault(due, "g1;g1", 3);
            fault(due, "g1,", 0);
        });
        e.edge(4, "and a ; behind the last one", "one alone", due -> {
            fault(due, ";", 0);
            fault(due, "g1;;", 3);
            fault(due, ";g1;", 0);
        });
    }

    private static void signs(Edges e) {
        e.edge(4, "each a letter", "no other than t, p, i, g, d, n", due -> {
            for (char c = 32; c <= 126; c++) {
                if ("tpigdn".indexOf(c) < 0) {
                    for (String rest : new String[] {"1;", "0,0;", "1,1,1;", "1,1,1,1;", ";"}) {
                        fault(due, TOLD + c + rest, TOLD.length());
                    }
                }
            }
        });
        e.edge(4, "ITEMS one behind the other", "nothing stands between them or behind the last one", due -> {
            for (char c = 32; c <= 126; c++) {
                fault(due, "g1;" + c + "g1;", 3);
                fault(due, "g1;" + c, 3);
                fault(due, c + "g1;", 0);
            }
        });
        e.edge(4, "parted by ,", "by no other sign", due -> {
            for (char c = 32; c <= 126; c++) {
                fault(due, "p1" + c + "1,1;", c == ',' ? NONE : 0);
                fault(due, "p1,1" + c + "1;", c == ',' ? NONE : 0);
            }
        });
        e.edge(4, "and a ; behind the last one", "no other sign", due -> {
            for (char c = 32; c <= 126; c++) {
                fault(due, "g1" + c, c == ';' ? NONE : 0);
                fault(due, "t1,1,1,1" + c, c == ';' ? NONE : 0);
            }
        });
        e.edge(4, "then numbers (one or two figures)", "of figures alone", due -> {
            for (char c = 32; c <= 126; c++) {
                boolean figure = '0' <= c && c <= '9';
                fault(due, "d" + c + ";", figure ? NONE : 0);
                // where the sign itself ends the item, another one is at fault
                fault(due, "d1" + c + ";", figure ? NONE : c == ';' ? 3 : 0);
                fault(due, "d" + c + "1;", '0' <= c && c <= '3' ? NONE : 0);
            }
        });
    }

    private static void things(Edges e) {
        e.edge(4, "tW,K,V,C a THING of weight W (1 to 20)", "0 and 21 are not", due -> range(due, "t%d,0,0,1;", 1, 20));
        e.edge(4, "tW,K,V,C a THING of weight W (1 to 20)", "four numbers", due -> numbers(due, "t", 4));
        e.edge(4, "of KIND K (0 SOFT, 1 SLIDING, 2 ROLLING, 3 HARD)", "4 is not", due -> range(due, "t1,%d,0,1;", 0, 3));
        e.edge(4, "worth V (0 to 9)", "10 is not", due -> range(due, "t1,0,%d,1;", 0, 9));
        e.edge(4, "of CHANCE C (1 to 9)", "0 and 10 are not", due -> range(due, "t1,0,0,%d;", 1, 9));
        e.edge(4, "8 at most, 0, 1, ..", "the 9th is a fault", due -> {
            String thing = "t1,0,0,1;";
            fault(due, thing.repeat(8), NONE);
            fault(due, thing.repeat(9), 72);
            fault(due, thing.repeat(4) + "p0,0,1;" + thing.repeat(5), 79);
            fault(due, thing.repeat(8) + "p0,0,1;i0,7;", NONE);
        });
    }

    private static void parcels(Edges e) {
        e.edge(4, "pB,O,Z a PARCEL whose box weighs B (0 to 9)", "10 is not", due -> range(due, "p%d,0,1;", 0, 9));
        e.edge(4, "pB,O,Z a PARCEL whose box weighs B (0 to 9)", "three numbers", due -> numbers(due, "p", 3));
        e.edge(4, "of CHILD O (0, 1)", "2 is not", due -> range(due, "p0,%d,1;", 0, 1));
        e.edge(4, "with Z (1, 2) THINGS in it", "0 and 3 are not", due -> range(due, "p0,0,%d;", 1, 2));
        e.edge(4, "4 at most, 0, 1, ..", "the 5th is a fault", due -> {
            fault(due, "p0,0,1;".repeat(4), NONE);
            fault(due, "p0,0,1;".repeat(5), 28);
            fault(due, "p0,0,1;t1,0,0,1;".repeat(5), 64);
        });
    }

    private static void truth(Edges e) {
        e.edge(4, "iP,T in truth THING T is in PARCEL P", "two numbers", due -> {
            String told = "t1,0,0,1;t1,0,0,1;p0,0,1;p0,0,1;";
            for (int many = 1; many <= 4; many++) {
                fault(due, told + "i1" + ",1".repeat(many - 1) + ";", many == 2 ? NONE : told.length());
            }
        });
        e.edge(4, "iP,T in truth THING T is in PARCEL P", "the parcel is the first number", due -> {
            fault(due, "t1,0,0,1;t1,0,0,1;p0,0,1;i0,1;", NONE);
            fault(due, "t1,0,0,1;t1,0,0,1;p0,0,1;i1,0;", 25);
        });
        e.edge(4, "both told ahead", "a parcel that is not there, or only later", due -> {
            fault(due, TOLD + "i1,0;", 16);
            fault(due, TOLD + "i1,0;p0,0,1;", 16);
            fault(due, "t1,0,0,1;i0,0;p0,0,1;", 9);
            fault(due, TOLD + "p0,0,1;i1,0;", NONE);
            fault(due, TOLD + "i99,0;", 16);
        });
        e.edge(4, "both told ahead", "a thing that is not there, or only later", due -> {
            fault(due, TOLD + "i0,1;", 16);
            fault(due, TOLD + "i0,1;t1,0,0,1;", 16);
            fault(due, "p0,0,1;i0,0;t1,0,0,1;", 7);
            fault(due, TOLD + "t1,0,0,1;i0,1;", NONE);
            fault(due, TOLD + "i0,99;", 16);
        });
        e.edge(4, "both told ahead", "the last thing of 8 in the last parcel of 4", due -> {
            String most = "t1,0,0,1;".repeat(8) + "p0,0,1;".repeat(4);
            fault(due, most + "i3,7;", NONE);
            fault(due, most + "i3,8;", most.length());
            fault(due, most + "i4,7;", most.length());
        });
        e.edge(4, "the same again as well", "it is no fault", due -> {
            fault(due, TOLD + "i0,0;i0,0;", NONE);
            fault(due, TOLD + "i0,0;".repeat(30), NONE);
        });
        e.edge(4, "iP,T in truth THING T is in PARCEL P", "whether it fits is no matter of a fault", due -> {
            fault(due, TOLD + "t1,0,0,1;i0,0;i0,1;", NONE);
            fault(due, TOLD + "p0,0,1;i0,0;i1,0;", NONE);
            fault(due, TOLD, NONE);
        });
    }

    private static void scaleAndApart(Edges e) {
        e.edge(4, "gG the scale tells weights in steps of G (1 to 9", "0 and 10 are not", due -> range(due, "g%d;", 1, 9));
        e.edge(4, "gG the scale tells weights in steps of G (1 to 9", "one number", due -> numbers(due, "g", 1));
        e.edge(4, "1 without; the last one)", "a wrong one is a fault though a right one follows", due -> {
            fault(due, "g0;g1;", 0);
            fault(due, "g1;g9;g1;", NONE);
        });
        e.edge(4, "dD what both CHILDREN get is worth no more than D (0 to 40) apart", "41 is not", due -> range(due, "d%d;", 0, 40));
        e.edge(4, "dD what both CHILDREN get is worth no more than D (0 to 40) apart", "one number", due -> numbers(due, "d", 1));
        e.edge(4, "40 without; the last one)", "a wrong one is a fault though a right one follows", due -> {
            fault(due, "d41;d1;", 0);
            fault(due, "d0;d40;d0;", NONE);
        });
    }

    private static void sorts(Edges e) {
        e.edge(4, "nK,N,S a trial of SORT K (0 WEIGH, 1 TIP, 2 SHAKE, 3 PRESS)", "4 is not", due -> range(due, "n%d,0,1;", 0, 3));
        e.edge(4, "nK,N,S a trial of SORT K (0 WEIGH, 1 TIP, 2 SHAKE, 3 PRESS)", "three numbers", due -> numbers(due, "n", 3));
        e.edge(4, "is noticed by the chance of N (0 to 9) of ten", "10 is not", due -> range(due, "n0,%d,1;", 0, 9));
        e.edge(4, "and takes S (1 to 60) seconds", "0 and 61 are not", due -> range(due, "n0,0,%d;", 1, 60));
        e.edge(4, "(without: 0, 10; the last one of each)", "one again is no fault, a wrong one is though a right one follows", due -> {
            fault(due, "n0,0,1;n0,0,1;n0,9,60;", NONE);
            fault(due, "n0,0,0;n0,0,1;", 0);
        });
    }
}
