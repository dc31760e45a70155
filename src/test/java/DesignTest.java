/** Promises 17 to 23: pairs, even, worst, spread, differs, family, seek. */
public final class DesignTest {
    private static final int[][] PAIRS = {{-1, 3, 2, 1}, {3, -1, 4, 3}, {2, 4, -1, 2}, {1, 3, 2, -1}};

    private final Check c = new Check("design");

    public static void main(String[] args) {
        DesignTest t = new DesignTest();
        t.pairs();
        t.even();
        t.spread();
        t.differs();
        t.family();
        t.seek();
        t.c.end();
    }

    private void pairs() {
        ParitySpread x = Check.told(LayoutTest.TOLD);
        x.lose(1);
        int[] worst = {3, 4, 4, 3};
        for (int a = 0; a < 4; a++) {
            for (int b = 0; b < 4; b++) {
                c.due("pairs(" + a + ", " + b + ")", x.pairs(a, b), PAIRS[a][b]);
            }
            c.due("worst(" + a + ")", x.worst(a), worst[a]);
        }
        int[] odd = {-1, 4, Integer.MIN_VALUE, Integer.MAX_VALUE};
        for (int i : odd) {
            c.due("pairs(" + i + ", 0)", x.pairs(i, 0), -1);
            c.due("pairs(0, " + i + ")", x.pairs(0, i), -1);
            c.due("worst(" + i + ")", x.worst(i), -1);
        }
        ParitySpread none = Check.told("disks 3;");
        c.due("pairs without stripes", none.pairs(0, 2), 0);
        c.due("worst without stripes", none.worst(2), 0);
    }

    private void even() {
        c.due("even not", Check.told(LayoutTest.TOLD).even(), -1);
        c.due("even of none", Check.told("disks 4;").even(), 0);
        c.due("even without disks", new ParitySpread().even(), -1);
        c.due("even of two", Check.told("disks 2;block twice 0 1;").even(), 2);
        c.due("even of 7", Check.told("disks 7;block cycle 0 1 3;").even(), 1);
        c.due("even of 7, 4", Check.told("disks 7;block cycle 0 1 2 4;").even(), 2);
        c.due("even of 13", Check.told("disks 13;block cycle 0 1 4;block cycle 0 2 7;").even(), 1);
        c.due("not even by the last pair", Check.told("disks 3;block once 0 1;block once 0 2;").even(), -1);
        c.due("not even by 0 and 2", Check.told("disks 3;block once 0 1;block once 1 2;").even(), -1);
        c.due("worst with disk 0", Check.told("disks 3;block once 0 2;").worst(2), 1);
        c.due("even by once", Check.told("disks 3;block once 0 1;block once 0 2;block once 2 1;").even(), 1);
    }

    private void spread() {
        ParitySpread x = Check.told(LayoutTest.TOLD);
        c.due("spread of units", x.spread(0), 3);
        c.due("spread of parities", x.spread(1), 2);
        c.due("spread of spares", x.spread(2), 1);
        x.lose(0);
        c.due("spread as told", x.spread(0), 3);
        int[] odd = {-1, 3, Integer.MIN_VALUE, Integer.MAX_VALUE};
        for (int i : odd) {
            c.due("spread(" + i + ")", x.spread(i), -1);
        }
        ParitySpread none = Check.told("disks 4;");
        ParitySpread last = Check.told("disks 4;block once 0 3;parity 1;");
        for (int what = 0; what <= 2; what++) {
            c.due("spread without stripes", none.spread(what), 0);
            c.due("spread of one", last.spread(what), 1);
            c.due("spread without disks", new ParitySpread().spread(what), -1);
        }
    }

    private void differs() {
        ParitySpread x = Check.told(LayoutTest.TOLD);
        int[][] due = {{2, 2, 2}, {0, 2, 0}, {2, 2, 2}, {1, 0, 1}};
        for (int b = 0; b < 4; b++) {
            for (int by = 1; by <= 3; by++) {
                c.due("differs(" + b + ", " + by + ")", x.differs(b, by), due[b][by - 1]);
            }
            c.due("differs by 0", x.differs(b, 0), -1);
            c.due("differs by all", x.differs(b, 4), -1);
        }
        int[] odd = {-1, 4, Integer.MIN_VALUE, Integer.MAX_VALUE};
        for (int i : odd) {
            c.due("differs of " + i, x.differs(i, 1), -1);
            c.due("differs by " + i, x.differs(0, i), -1);
        }
        ParitySpread y = Check.told("disks 13;block once 12 0 3 9 1;");
        int[] row = {2, 2, 2, 2, 1, 1, 1, 1, 2, 2, 2, 2};
        for (int by = 1; by <= 12; by++) {
            c.due("differs of five by " + by, y.differs(0, by), row[by - 1]);
        }
    }

    private void family() {
        c.due("family of 7", Check.told("disks 7;block cycle 0 1 3;").family(), 1);
        c.due("family of 13", Check.told("disks 13;block cycle 0 1 4;block cycle 7 2 0;").family(), 1);
        c.due("family of 5", Check.told("disks 5;block cycle 0 1;block once 0 1;block cycle 2 4;").family(), 1);
        c.due("not alike", Check.told("disks 5;block cycle 0 1;").family(), -1);
        c.due("alike but for a once block", Check.told("disks 5;block cycle 0 1;block once 0 2;").family(), -1);
        c.due("no cycle block", Check.told("disks 7;block once 0 1 3;block twice 0 1 3;").family(), -1);
        c.due("two disks", Check.told("disks 2;block cycle 1 0;").family(), 2);
        c.due("no block", Check.told("disks 7;").family(), -1);
        c.due("not alike at the last", Check.told("disks 4;block cycle 0 2;block cycle 0 1;").family(), -1);
    }

    private void seek() {
        seek(2, 3, -1, -1, -1);
        seek(3, 3, 7, -1, -1);
        seek(4, -1, 7, 15, -1);
        seek(5, -1, -1, 15, 31);
        seek(6, -1, -1, -1, 31);
        seek(7, -1, 11, 23, -1);
        seek(11, -1, -1, -1, 151);
        seek(12, -1, -1, -1, -1);
        seek(13, -1, -1, 523, -1);
        ParitySpread x = Check.told("disks 5;");
        int[] odd = {-1, 0, 1, 6, Integer.MIN_VALUE, Integer.MAX_VALUE};
        for (int i : odd) {
            c.due("seek(" + i + ")", x.seek(i), -1);
        }
    }

    private void seek(int disks, int... due) {
        ParitySpread x = Check.told("disks " + disks + ";");
        for (int size = 2; size <= 5; size++) {
            c.due("seek(" + size + ") of " + disks, x.seek(size), due[size - 2]);
        }
    }
}
