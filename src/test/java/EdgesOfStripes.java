/** Which STRIPES, UNITS, DATA, PLACES and SPARES come of an ARRAY. */
final class EdgesOfStripes {
    private static final String ONE = "disks 4;block once 0 1 2;";

    private EdgesOfStripes() {
    }

    static void add(Edges e) {
        e.terms("STRIPES come of blocks, as told, numbered from 0", EdgesOfStripes::asTold);
        e.terms("of once one of its DISKS", c -> stripes(c, "disks 3;block once 2 0;", new int[][] {{2, 0}}));
        e.terms("of cycle one for each s from 0 to less than there are DISKS: each DISK and s, modulo how many DISKS there are",
            EdgesOfStripes::cycle);
        e.terms("of mirror two: its DISKS, then those that are as far from the last DISK as these from the first",
            EdgesOfStripes::mirror);
        e.terms("of twice two of its DISKS.", c -> stripes(c, "disks 3;block twice 2 0;", new int[][] {{2, 0}, {2, 0}}));
        e.terms("A STRIPE has a UNIT on each of its DISKS, in the order told.", EdgesOfStripes::orderTold);
        e.terms("the one whose number (from 0) is the E of parity, modulo size (0 to less than that)", EdgesOfStripes::parity);
        e.terms("All others are DATA, numbered on through all STRIPES by these and by UNITS.", EdgesOfStripes::data);
        e.terms("The PLACE of a UNIT: its DISK, and how many STRIPES ahead have a UNIT there.", EdgesOfStripes::places);
        e.terms("of the DISKS on which it has none the one that is SPARE of the fewest STRIPES ahead", EdgesOfStripes::spares);
        e.terms("of equal ones the first", EdgesOfStripes::firstSpare);
        e.terms("(none: it has one on each)", EdgesOfStripes::noSpare);
        e.terms("its place there: behind all UNITS of that DISK and the SPARES there of STRIPES ahead",
            EdgesOfStripes::placesOfSpares);
        e.terms("A UNIT is HOME (at its PLACE), AWAY (at the SPARE of its STRIPE), or LOST.", EdgesOfStripes::where);
        e.terms("A STRIPE is DEAD as long as two or more of its UNITS are LOST.", EdgesOfStripes::dead);
        e.terms("What is told of a UNIT is one byte: of the PARITY all DATA of the STRIPE by exclusive or.",
            EdgesOfStripes::bytes);
    }

    private static void stripes(Check c, String told, int[][] disks) {
        ParitySpread x = Check.told(told);
        c.due("stripes", x.count(2), disks.length);
        for (int s = 0; s < disks.length; s++) {
            c.due("size of " + s, x.stripe(s, 0), disks[s].length);
            for (int u = 0; u < disks[s].length; u++) {
                c.due("disk of " + s + ", " + u, x.unit(s, u, 0), disks[s][u]);
            }
        }
        c.due("none behind the last", x.stripe(disks.length, 0), -2);
    }

    private static void asTold(Check c) {
        stripes(c, "disks 3;block twice 0 1;block once 1 2;block mirror 0 1;block cycle 0 2;", new int[][] {
            {0, 1}, {0, 1}, {1, 2}, {0, 1}, {2, 1}, {0, 2}, {1, 0}, {2, 1}});
        c.due("no block, no stripe", Check.told("disks 3;").count(2), 0);
    }

    private static void cycle(Check c) {
        stripes(c, "disks 5;block cycle 4 2;", new int[][] {{4, 2}, {0, 3}, {1, 4}, {2, 0}, {3, 1}});
        stripes(c, "disks 2;block cycle 0 1;", new int[][] {{0, 1}, {1, 0}});
        ParitySpread x = Check.told("disks 13;block cycle 12 0;");
        c.due("thirteen", x.count(2), 13);
        c.due("from the last to the first", x.unit(1, 0, 0), 0);
        c.due("the last one", x.unit(12, 0, 0), 11);
        c.due("the last one's second", x.unit(12, 1, 0), 12);
    }

    private static void mirror(Check c) {
        stripes(c, "disks 5;block mirror 0 2 3;", new int[][] {{0, 2, 3}, {4, 2, 1}});
        stripes(c, "disks 2;block mirror 0 1;", new int[][] {{0, 1}, {1, 0}});
        stripes(c, "disks 13;block mirror 12 0 6;", new int[][] {{12, 0, 6}, {0, 12, 6}});
    }

    private static void orderTold(Check c) {
        stripes(c, "disks 6;block once 5 0 4 1 3;", new int[][] {{5, 0, 4, 1, 3}});
        stripes(c, "disks 6;block once 1 0;", new int[][] {{1, 0}});
    }

    private static void parity(Check c) {
        String[] e = {"0", "2", "3", "4", "0-1", "0-3", "0-4", "9999", "4096*4096*128", "4096*4096*128-1"};
        int[] due = {0, 2, 0, 1, 2, 0, 2, 0, 1, 1};
        for (int i = 0; i < e.length; i++) {
            ParitySpread x = Check.told("disks 3;block once 0 1 2;parity " + e[i] + ";");
            c.due("parity " + e[i], x.stripe(0, 1), due[i]);
            c.due("it is no DATUM", x.unit(0, due[i], 4), -1);
            c.due("data", x.count(3), 2);
        }
    }

    private static void data(Check c) {
        ParitySpread x = Check.told("disks 4;block once 0 1 2;block once 2 3;block once 0 1 2 3;parity size-1;");
        int[][] due = {{0, 1, -1}, {2, -1}, {3, 4, 5, -1}};
        numbers(c, x, due);
        numbers(c, Check.told("disks 4;block once 0 1 2;block once 2 3;block once 0 1 2 3;parity 1;"),
            new int[][] {{0, -1, 1}, {2, -1}, {3, -1, 4, 5}});
        c.due("no stripe, no datum", Check.told("disks 4;").count(3), 0);
    }

    private static void numbers(Check c, ParitySpread x, int[][] due) {
        int data = 0;
        for (int s = 0; s < due.length; s++) {
            for (int u = 0; u < due[s].length; u++) {
                c.due("datum of " + s + ", " + u, x.unit(s, u, 4), due[s][u]);
                if (due[s][u] >= 0) {
                    c.due("stripe of datum " + due[s][u], x.datum(due[s][u], 0), s);
                    c.due("unit of datum " + due[s][u], x.datum(due[s][u], 1), u);
                    data++;
                }
            }
        }
        c.due("data", x.count(3), data);
    }

    private static void places(Check c) {
        ParitySpread x = Check.told("disks 3;block once 0 1;block once 1 2;block once 2 1 0;");
        int[][] due = {{0, 0}, {1, 0}, {1, 2, 1}};
        for (int s = 0; s < due.length; s++) {
            for (int u = 0; u < due[s].length; u++) {
                c.due("place of " + s + ", " + u, x.unit(s, u, 1), due[s][u]);
            }
        }
        ParitySpread most = Check.told("disks 8;" + "block cycle 0 1 2 3 4;".repeat(5));
        c.due("the last of 25 on a disk", most.unit(39, 4, 1), 24);
    }

    private static void spare(Check c, String told, int... due) {
        ParitySpread x = Check.told(told);
        for (int s = 0; s < due.length; s++) {
            c.due(told + " spare of " + s, x.stripe(s, 2), due[s]);
        }
    }

    private static void spares(Check c) {
        spare(c, "disks 4;block once 0 1;block once 0 1;block once 0 1;block once 0 2;", 2, 3, 2, 1);
        spare(c, "disks 3;block once 0 1;block once 0 1;block once 1 2;block once 0 2;block once 0 1;", 2, 2, 0, 1, 2);
    }

    private static void firstSpare(Check c) {
        spare(c, "disks 5;block once 3 4;", 0);
        spare(c, "disks 5;block once 0 4;", 1);
        spare(c, "disks 4;block once 0 1;block once 0 1;block once 0 1;", 2, 3, 2);
        spare(c, "disks 13;block once 0 1 2 3 4;", 5);
    }

    private static void noSpare(Check c) {
        spare(c, "disks 2;block twice 0 1;", -1, -1);
        spare(c, "disks 5;block once 4 3 2 1 0;", -1);
        spare(c, "disks 5;block once 4 3 2 1;", 0);
        spare(c, "disks 3;block once 0 1 2;block once 0 1;block once 2 1 0;block once 1 2;", -1, 2, -1, 0);
        ParitySpread x = Check.told("disks 2;block twice 0 1;");
        c.due("no spares", x.disk(0, 3) + x.disk(1, 3), 0);
        c.due("nothing behind the units", x.at(0, 2), -1);
    }

    private static void placesOfSpares(Check c) {
        ParitySpread x = Check.told("disks 4;block once 0 1;block once 0 1;block once 0 1;block once 0 2;");
        at(c, x, new int[][] {{0, 8, 16, 24, -1}, {1, 9, 17, 31, -1}, {25, 7, 23, -1}, {15, -1}});
        ParitySpread five = Check.told("disks 6;block twice 0 1 2 3 4;");
        at(c, five, new int[][] {{0, 8, -1}, {1, 9, -1}, {2, 10, -1}, {3, 11, -1}, {4, 12, -1}, {7, 15, -1}});
    }

    private static void at(Check c, ParitySpread x, int[][] due) {
        for (int d = 0; d < due.length; d++) {
            for (int p = 0; p < due[d].length; p++) {
                c.due("at(" + d + ", " + p + ")", x.at(d, p), due[d][p]);
            }
        }
    }

    private static void where(Check c) {
        ParitySpread x = Check.told("disks 4;block once 0 1 2;block once 3 0;");
        c.due("HOME", x.unit(0, 1, 2), 0);
        c.due("its disk", x.datum(0, 2), 1);
        c.due("its place", x.datum(0, 3), 0);
        x.lose(1);
        c.due("LOST", x.unit(0, 1, 2), 2);
        c.due("no disk", x.datum(0, 2), -1);
        c.due("no place", x.datum(0, 3), -1);
        x.rebuild(1);
        c.due("AWAY", x.unit(0, 1, 2), 1);
        c.due("the spare's disk", x.datum(0, 2), 3);
        c.due("the spare's place", x.datum(0, 3), 1);
    }

    private static void dead(Check c) {
        ParitySpread x = Check.told("disks 6;block once 0 1 2 3 4;");
        int[] due = {0, 1, 1, 1, 1};
        for (int d = 0; d < 5; d++) {
            x.lose(d);
            c.due("dead with " + (d + 1) + " lost", x.count(7), due[d]);
        }
        ParitySpread y = Check.told(ONE);
        y.lose(1);
        y.rebuild(1);
        y.lose(2);
        c.due("one lost, one away", y.count(7), 0);
        c.due("its byte is told", y.unit(0, 2, 3), 0);
        y.lose(3);
        c.due("two lost", y.count(7), 1);
        c.due("no byte is told", y.unit(0, 2, 3), -1);
        y.replace(1);
        y.replace(2);
        y.replace(3);
        y.rebuild(40);
        c.due("dead still", y.count(7), 1);
    }

    private static void bytes(Check c) {
        ParitySpread x = Check.told("disks 4;block once 0 1 2;block once 0 1;parity 0;");
        x.write(0, 255);
        c.due("one of two", x.unit(0, 0, 3), 255);
        x.write(1, 255);
        c.due("both alike", x.unit(0, 0, 3), 0);
        x.write(1, 128);
        c.due("both", x.unit(0, 0, 3), 127);
        x.write(2, 99);
        c.due("of two units it is the other", x.unit(1, 0, 3), 99);
        x.lose(0);
        c.due("of what is lost, too", x.unit(0, 0, 3), 127);
        ParitySpread five = Check.told("disks 5;block twice 0 1 2 3 4;parity 4;");
        five.write(4, 77);
        c.due("the next stripe has no part in it", five.unit(0, 4, 3), 0);
        c.due("its own has", five.unit(1, 4, 3), 77);
    }
}
