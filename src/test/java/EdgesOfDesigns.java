/** PAIRS to SEEK: how even an ARRAY is, and the differences of its blocks. */
final class EdgesOfDesigns {
    private EdgesOfDesigns() {
    }

    static void add(Edges e) {
        e.terms("PAIRS of two DISKS: how many STRIPES have UNITS on both.", EdgesOfDesigns::pairs);
        e.terms("EVEN: how often any two do, if all do alike.", EdgesOfDesigns::even);
        e.terms("WORST of a DISK: the greatest of its PAIRS.", EdgesOfDesigns::worst);
        e.terms("SPREAD: by how much the DISK with the most is above the one with the fewest", EdgesOfDesigns::spread);
        e.terms("DIFFERS of a block and d (1 to less than there are DISKS)", EdgesOfDesigns::differsRange);
        e.terms("how many of its DISKS, as told, have another one of it so far on, modulo how many there are",
            EdgesOfDesigns::differs);
        e.terms("FAMILY: how often each d is in all cycle blocks, together, if all are alike, and there is any.",
            EdgesOfDesigns::family);
        e.terms("SEEK of a size (2 to 5)", EdgesOfDesigns::seekSize);
        e.terms("the set of so many DISKS, 0 among these, all of whose differences (1 on) are alike often",
            EdgesOfDesigns::seek);
        e.terms("of more the one whose DISKS are the least (the second least first, then the third, ..): bits",
            EdgesOfDesigns::seekLeast);
        calls(e);
    }

    private static void calls(Edges e) {
        e.promise(17, "PAIRS; NONE: others, the same.", EdgesOfDesigns::pairsOthers);
        e.promise(18, "NONE: not alike, fewer than two DISKS", EdgesOfDesigns::evenNone);
        e.promise(19, "WORST; NONE: others.", EdgesOfDesigns::worstOthers);
        e.promise(20, "what 0: of UNITS, 1: of PARITIES, 2: of SPARES", EdgesOfDesigns::spreadWhat);
        e.promise(20, "NONE: others, no DISKS", EdgesOfDesigns::spreadOthers);
        e.promise(21, "DIFFERS; NONE: others.", EdgesOfDesigns::differsOthers);
        e.promise(22, "NONE: not alike, no cycle block", EdgesOfDesigns::familyNone);
        e.promise(23, "SEEK, as bits; NONE: others, none.", EdgesOfDesigns::seekNone);
    }

    private static void pairs(Check c) {
        ParitySpread x = Check.told("disks 4;block once 0 1 2;block twice 1 2;block once 0 3;");
        int[][] due = {{-1, 1, 1, 1}, {1, -1, 3, 0}, {1, 3, -1, 0}, {1, 0, 0, -1}};
        for (int a = 0; a < 4; a++) {
            for (int b = 0; b < 4; b++) {
                c.due("pairs(" + a + ", " + b + ")", x.pairs(a, b), due[a][b]);
            }
        }
        x.lose(1);
        c.due("as told, not as it is now", x.pairs(1, 2), 3);
        c.due("no stripes", Check.told("disks 2;").pairs(0, 1), 0);
        c.due("12 stripes", Check.told("disks 2;" + "block cycle 0 1;".repeat(6)).pairs(0, 1), 12);
    }

    private static void even(Check c) {
        c.due("no stripes", Check.told("disks 13;").even(), 0);
        c.due("two disks", Check.told("disks 2;block once 0 1;").even(), 1);
        c.due("seven disks", Check.told("disks 7;block cycle 0 1 3;").even(), 1);
        c.due("all but the first pair", Check.told("disks 3;block once 0 2;block once 1 2;").even(), -1);
        c.due("all but the last pair", Check.told("disks 3;block once 0 1;block once 0 2;").even(), -1);
        c.due("all but one between", Check.told("disks 3;block once 0 1;block once 1 2;").even(), -1);
        c.due("all three", Check.told("disks 3;block once 0 1;block once 1 2;block once 0 2;").even(), 1);
    }

    private static void worst(Check c) {
        ParitySpread x = Check.told("disks 4;block once 0 1 2;block twice 1 2;block once 0 3;");
        int[] due = {1, 3, 3, 1};
        for (int d = 0; d < 4; d++) {
            c.due("worst(" + d + ")", x.worst(d), due[d]);
        }
        c.due("with the last disk", Check.told("disks 3;block once 0 2;").worst(0), 1);
        c.due("with the first disk", Check.told("disks 3;block once 0 2;").worst(2), 1);
        c.due("with none", Check.told("disks 3;block twice 0 2;").worst(1), 0);
    }

    private static void spread(Check c) {
        ParitySpread x = Check.told("disks 4;block twice 0 3;parity 1;");
        c.due("units, 2 and 0", x.spread(0), 2);
        c.due("parities, 2 and 0", x.spread(1), 2);
        c.due("spares, 1 and 0", x.spread(2), 1);
        ParitySpread even = Check.told("disks 3;block cycle 0 1;parity 0;");
        ParitySpread none = Check.told("disks 13;");
        for (int what = 0; what <= 2; what++) {
            c.due("all alike", even.spread(what), 0);
            c.due("no stripes", none.spread(what), 0);
        }
        ParitySpread most = Check.told("disks 13;block twice 12 11;parity 0;");
        c.due("13 disks, units", most.spread(0), 2);
        c.due("13 disks, parities", most.spread(1), 2);
        c.due("13 disks, spares", most.spread(2), 1);
        c.due("the last disk has the most", Check.told("disks 3;block once 0 2;block once 1 2;").spread(0), 1);
        c.due("the first disk has the most", Check.told("disks 3;block once 0 2;block once 0 1;").spread(0), 1);
    }

    private static void differsRange(Check c) {
        ParitySpread x = Check.told("disks 7;block once 0 1 3;");
        c.due("d 0", x.differs(0, 0), -1);
        c.due("d 1", x.differs(0, 1), 1);
        c.due("d 6", x.differs(0, 6), 1);
        c.due("d 7", x.differs(0, 7), -1);
        ParitySpread two = Check.told("disks 2;block once 0 1;");
        c.due("two disks, d 1", two.differs(0, 1), 2);
        c.due("two disks, d 2", two.differs(0, 2), -1);
        ParitySpread most = Check.told("disks 13;block once 0 12;");
        c.due("13 disks, d 12", most.differs(0, 12), 1);
        c.due("13 disks, d 13", most.differs(0, 13), -1);
    }

    private static void differs(Check c) {
        ParitySpread x = Check.told("disks 4;block once 0 2;block mirror 3 0;block cycle 0 1 2 3;");
        int[][] due = {{0, 2, 0}, {1, 0, 1}, {4, 4, 4}};
        for (int b = 0; b < 3; b++) {
            for (int d = 1; d <= 3; d++) {
                c.due("differs(" + b + ", " + d + ")", x.differs(b, d), due[b][d - 1]);
            }
        }
        ParitySpread wrapped = Check.told("disks 13;block twice 12 0;");
        c.due("from the last to the first", wrapped.differs(0, 1), 1);
        c.due("from the first to the last", wrapped.differs(0, 12), 1);
        c.due("no other", wrapped.differs(0, 2), 0);
    }

    private static void family(Check c) {
        c.due("one block", Check.told("disks 7;block cycle 0 1 3;").family(), 1);
        c.due("two blocks", Check.told("disks 13;block cycle 0 1 4;block cycle 0 2 7;").family(), 1);
        c.due("one of these alone", Check.told("disks 13;block cycle 0 1 4;").family(), -1);
        c.due("once blocks have no part", Check.told("disks 5;block cycle 0 1;block once 0 2;").family(), -1);
        String others = "block once 0 1;block twice 0 2;block mirror 1 3;";
        c.due("nor do they spoil it", Check.told("disks 7;" + others + "block cycle 0 1 3;").family(), 1);
        c.due("two disks", Check.told("disks 2;block cycle 0 1;").family(), 2);
        c.due("the same block twice", Check.told("disks 7;block cycle 0 1 3;block cycle 0 1 3;").family(), 2);
    }

    private static void seekSize(Check c) {
        ParitySpread x = Check.told("disks 5;");
        c.due("size 0", x.seek(0), -1);
        c.due("size 1", x.seek(1), -1);
        c.due("size 2 of 2", Check.told("disks 2;").seek(2), 3);
        c.due("size 5 of 5", x.seek(5), 31);
        c.due("size 6", Check.told("disks 6;").seek(6), -1);
        c.due("size 5 of 6", Check.told("disks 6;").seek(5), 31);
    }

    private static void seek(Check c) {
        c.due("size 3 of 3", Check.told("disks 3;").seek(3), 7);
        c.due("size 2 of 3", Check.told("disks 3;").seek(2), 3);
        c.due("size 2 of 4", Check.told("disks 4;").seek(2), -1);
        c.due("size 3 of 2", Check.told("disks 2;").seek(3), -1);
        c.due("size 5 of 4", Check.told("disks 4;").seek(5), -1);
        c.due("size 3 of 6", Check.told("disks 6;").seek(3), -1);
        c.due("size 5 of 11", Check.told("disks 11;").seek(5), 151);
        c.due("blocks have no part in it", Check.told("disks 7;block once 0 1 2;").seek(3), 11);
    }

    /** Of 13 DISKS 0, 1, 3, 9 comes ahead of 0, 2, 3, 7, though that is less as bits. */
    private static void seekLeast(Check c) {
        c.due("0, 1, 3 of 7", Check.told("disks 7;").seek(3), 11);
        c.due("0, 1, 2, 4 of 7", Check.told("disks 7;").seek(4), 23);
        c.due("0, 1, 3, 9 of 13", Check.told("disks 13;").seek(4), 523);
        ParitySpread other = Check.told("disks 13;block once 0 2 3 7;");
        for (int d = 1; d <= 12; d++) {
            c.due("the other one's differences by " + d, other.differs(0, d), 1);
        }
    }

    private static void pairsOthers(Check c) {
        ParitySpread x = Check.told("disks 2;block once 0 1;");
        int[] odd = {-1, 2, Integer.MIN_VALUE, Integer.MAX_VALUE};
        c.due("both", x.pairs(0, 1), 1);
        c.due("0 and itself", x.pairs(0, 0), -1);
        c.due("1 and itself", x.pairs(1, 1), -1);
        for (int i : odd) {
            c.due("pairs(" + i + ", 0)", x.pairs(i, 0), -1);
            c.due("pairs(1, " + i + ")", x.pairs(1, i), -1);
            c.due("pairs(" + i + ", " + i + ")", x.pairs(i, i), -1);
        }
        c.due("no disks", new ParitySpread().pairs(0, 1), -1);
    }

    private static void evenNone(Check c) {
        c.due("no disks", new ParitySpread().even(), -1);
        c.due("no disks told", Check.told("speed 2;").even(), -1);
        c.due("two disks", Check.told("disks 2;").even(), 0);
        c.due("not alike", Check.told("disks 3;block once 0 1;").even(), -1);
    }

    private static void worstOthers(Check c) {
        ParitySpread x = Check.told("disks 3;block once 0 1;");
        int[] odd = {-1, 3, Integer.MIN_VALUE, Integer.MAX_VALUE};
        for (int i : odd) {
            c.due("worst(" + i + ")", x.worst(i), -1);
        }
        c.due("the last disk", x.worst(2), 0);
        c.due("no disks", new ParitySpread().worst(0), -1);
    }

    private static void spreadWhat(Check c) {
        ParitySpread x = Check.told("disks 6;block once 0 1 2;block once 0 1 3;block once 0 1 4;block once 0 1 5;parity 0;");
        c.due("of units", x.spread(0), 3);
        c.due("of parities", x.spread(1), 4);
        c.due("of spares", x.spread(2), 1);
    }

    private static void spreadOthers(Check c) {
        ParitySpread x = Check.told("disks 2;");
        int[] odd = {-1, 3, Integer.MIN_VALUE, Integer.MAX_VALUE};
        for (int i : odd) {
            c.due("spread(" + i + ")", x.spread(i), -1);
        }
        for (int what = 0; what <= 2; what++) {
            c.due("two disks", x.spread(what), 0);
            c.due("no disks", new ParitySpread().spread(what), -1);
            c.due("no disks told", Check.told("speed 2;").spread(what), -1);
        }
    }

    private static void differsOthers(Check c) {
        ParitySpread x = Check.told("disks 3;block once 0 1;block once 0 2;");
        int[] odd = {-1, 3, 99, Integer.MIN_VALUE, Integer.MAX_VALUE};
        for (int i : odd) {
            c.due("differs(" + i + ", 1)", x.differs(i, 1), -1);
            c.due("differs(0, " + i + ")", x.differs(0, i), -1);
        }
        c.due("the last block", x.differs(1, 2), 1);
        c.due("no block 2", x.differs(2, 1), -1);
        c.due("d 0", x.differs(0, 0), -1);
        c.due("no blocks", Check.told("disks 3;").differs(0, 1), -1);
        c.due("no disks", new ParitySpread().differs(0, 1), -1);
    }

    private static void familyNone(Check c) {
        c.due("not alike by the last", Check.told("disks 4;block cycle 0 2;block cycle 0 1;").family(), -1);
        c.due("not alike by the middle", Check.told("disks 4;block cycle 0 1;").family(), -1);
        c.due("no cycle block", Check.told("disks 7;block once 0 1 3;").family(), -1);
        c.due("no block", Check.told("disks 7;").family(), -1);
        c.due("no disks", new ParitySpread().family(), -1);
    }

    private static void seekNone(Check c) {
        ParitySpread x = Check.told("disks 7;");
        int[] odd = {-1, 0, 1, 6, 7, Integer.MIN_VALUE, Integer.MAX_VALUE};
        for (int i : odd) {
            c.due("seek(" + i + ")", x.seek(i), -1);
        }
        c.due("none of size 2", x.seek(2), -1);
        c.due("none of size 5", x.seek(5), -1);
        c.due("more than there are", Check.told("disks 4;").seek(5), -1);
        for (int size = 2; size <= 5; size++) {
            c.due("no disks", new ParitySpread().seek(size), -1);
        }
    }
}
