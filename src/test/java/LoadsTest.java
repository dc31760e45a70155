/** Promise 35: loads, held against the same draws done by hand on another object. */
public final class LoadsTest {
    private static final String[] TOLD = {
        "disks 7;block cycle 0 1 3;", "disks 2;block once 0 1;", LayoutTest.TOLD,
        "disks 13;block cycle 0 1 3 9;block cycle 0 5 2 7 11;block mirror 0 1 2;"};

    private final Check c = new Check("loads");

    public static void main(String[] args) {
        LoadsTest t = new LoadsTest();
        t.draws();
        t.byHand();
        t.nothingChanges();
        t.others();
        t.c.end();
    }

    /** The first draws by SEED 1 are known from elsewhere: 16838, 5758, 10113, 17515 of 32768. */
    private void draws() {
        Drawn drawn = new Drawn(1);
        int[] due = {16838, 5758, 10113, 17515};
        for (int d : due) {
            c.due("draw", drawn.below(1 << 15), d);
        }
        // 16838 modulo 8 is 6: a replace, of one that is up; 10113 modulo 8 is 1: a reading
        ParitySpread x = Check.told(TOLD[0]);
        c.due("a replace that can't be", x.loads(1, 1, 0), 0);
        c.due("then a reading", x.loads(1, 2, 0), 1);
        c.due("one disk above the others", x.loads(1, 2, 2), 1);
    }

    private void begin(ParitySpread x) {
        x.write(0, 3);
        x.lose(1);
        x.read(0);
        x.rebuild(2);
    }

    private void byHand() {
        for (String told : TOLD) {
            for (int seed = 0; seed <= 9999; seed += 333) {
                for (int many = 1; many <= 99; many += 49) {
                    ParitySpread x = Check.told(told);
                    ParitySpread y = Check.told(told);
                    begin(x);
                    begin(y);
                    int before = y.count(8);
                    new Drawn(seed).perform(y, many);
                    String call = told + " loads(" + seed + ", " + many + ", ";
                    c.due(call + "0)", x.loads(seed, many, 0), y.count(8) - before);
                    c.due(call + "1)", x.loads(seed, many, 1), y.count(7));
                    c.due(call + "2)", x.loads(seed, many, 2), Drawn.spread(y));
                }
            }
        }
    }

    private void nothingChanges() {
        ParitySpread x = Check.told(TOLD[0]);
        begin(x);
        x.see(0, true);
        int[] before = all(x);
        for (int seed = 0; seed < 9; seed++) {
            x.loads(seed, 99, seed % 3);
        }
        int[] after = all(x);
        for (int i = 0; i < before.length; i++) {
            c.due("all is as ahead " + i, after[i], before[i]);
        }
    }

    private static int[] all(ParitySpread x) {
        int[] all = new int[13 + 7 + 7 * 6];
        int n = 0;
        for (int what = 0; what < 13; what++) {
            all[n++] = x.count(what);
        }
        for (int d = 0; d < 7; d++) {
            all[n++] = x.disk(d, 4);
        }
        for (int s = 0; s < 7; s++) {
            for (int u = 0; u < 3; u++) {
                all[n++] = x.unit(s, u, 2);
                all[n++] = x.unit(s, u, 3);
            }
        }
        return all;
    }

    private void others() {
        ParitySpread x = Check.told(TOLD[0]);
        int[] odd = {-1, 10000, Integer.MIN_VALUE, Integer.MAX_VALUE};
        for (int i : odd) {
            c.due("seed " + i, x.loads(i, 1, 0), -1);
            c.due("many " + i, x.loads(0, i, 0), -1);
            c.due("what " + i, x.loads(0, 1, i), -1);
        }
        c.due("none of them", x.loads(0, 0, 0), -1);
        c.due("100 of them", x.loads(0, 100, 0), -1);
        c.due("what 3", x.loads(0, 1, 3), -1);
        ParitySpread none = Check.told("disks 5;");
        for (int what = 0; what <= 2; what++) {
            c.due("no data", none.loads(9999, 99, what), 0);
        }
        c.due("no data, what 3", none.loads(9999, 99, 3), -1);
    }
}
