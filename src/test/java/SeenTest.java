/** Promises 31 to 34: lost, see, who, ask. */
public final class SeenTest {
    /** Data 0, 1 on disks 1, 2 (parity on 0); 2, 3 on 2, 4 (parity on 3); 4 on 5 (parity on 4). */
    private static final String TOLD = "disks 6;block once 0 1 2;block once 2 3 4;block once 4 5;";

    private final Check c = new Check("seen");

    public static void main(String[] args) {
        SeenTest t = new SeenTest();
        t.lost();
        t.see();
        t.who();
        t.whoAsAllIsNow();
        t.ask();
        t.c.end();
    }

    private void lost() {
        ParitySpread x = Check.told(TOLD);
        c.noSuchLost(x, 0);
        x.lose(4);
        x.lose(2);
        int[] due = {2, 8, 10, 16};
        for (int i = 0; i < due.length; i++) {
            c.due("lost(" + i + ")", x.lost(i), due[i]);
        }
        c.noSuchLost(x, 4);
        c.noSuchLost(x, -1);
        c.noSuchLost(x, Integer.MIN_VALUE);
        c.noSuchLost(x, Integer.MAX_VALUE);
        x.rebuild(1);
        c.due("lost(0) after one is rebuilt", x.lost(0), 8);
        c.noSuchLost(x, 3);
        c.noSuchLost(new ParitySpread(), 0);
    }

    private void see() {
        ParitySpread x = Check.told(TOLD);
        int[] odd = {-1, 5, Integer.MIN_VALUE, Integer.MAX_VALUE};
        for (int i : odd) {
            c.due("see(" + i + ")", x.see(i, true), false);
        }
        c.due("nothing seen", x.count(11), 0);
        for (int i = 0; i < 8; i++) {
            c.due("see " + i, x.see(i % 5, i % 5 == 3), true);
        }
        c.due("seen", x.count(11), 8);
        c.due("a ninth", x.see(0, false), false);
        c.due("seen still", x.count(11), 8);
        c.due("who by all eight", x.who(), 1 << 4);
        c.due("no loads", x.count(8), 0);
    }

    private void who() {
        c.due("who of nothing seen", Check.told(TOLD).who(), 63);
        c.due("dearer by its own disk", whoBy(1, true), 4);
        c.due("not dearer by the others", whoBy(1, false), 59);
        c.due("of two units it is never dearer", whoBy(4, true), 0);
        c.due("of two units not", whoBy(4, false), 63);
        ParitySpread x = Check.told(TOLD);
        x.see(0, false);
        x.see(1, false);
        c.due("both", x.who(), 57);
        x.see(0, true);
        c.due("what can't be", x.who(), 0);
        ParitySpread eighth = Check.told(TOLD);
        for (int i = 0; i < 7; i++) {
            eighth.see(0, false);
        }
        eighth.see(3, true);
        c.due("the eighth counts", eighth.who(), 16);
    }

    private static int whoBy(int datum, boolean dearer) {
        ParitySpread x = Check.told(TOLD);
        x.see(datum, dearer);
        return x.who();
    }

    private void whoAsAllIsNow() {
        ParitySpread x = Check.told(TOLD);
        x.see(0, true);
        c.due("its disk", x.who(), 2);
        x.lose(1);
        c.due("it is lost: the others of its stripe", x.who(), 5);
        x.rebuild(40);
        c.due("it is away", x.who(), 8);
        x.lose(0);
        c.due("it is away, another is lost", x.who(), 8);
        x.lose(3);
        c.due("dead: all that are up", x.who(), 52);
        ParitySpread y = Check.told(TOLD);
        y.see(0, false);
        y.lose(1);
        y.lose(2);
        c.due("dead, not dearer: none", y.who(), 0);
        ParitySpread z = Check.told(TOLD);
        z.lose(5);
        z.see(4, true);
        c.due("of two, one lost: the other's disk", z.who(), 16);
        z.mark(0, false);
        z.lose(4);
        c.due("of two, both lost", z.who(), 15);
        for (int d = 0; d < 4; d++) {
            z.lose(d);
        }
        c.due("none is up", z.who(), 0);
        c.due("none to ask of", z.ask(), -1);
    }

    private void ask() {
        ParitySpread x = Check.told(TOLD);
        c.due("the first of equal ones", x.ask(), 0);
        x.see(0, false);
        c.due("the next", x.ask(), 1);
        x.see(1, false);
        c.due("not 2, by which none of those left would be dearer", x.ask(), 3);
        x.see(3, true);
        c.due("one is left", x.who(), 16);
        c.due("nothing to ask", x.ask(), -1);
        x.see(3, false);
        c.due("none is left", x.ask(), -1);
        ParitySpread y = Check.told(TOLD);
        y.lose(4);
        c.due("the one that parts them best", y.ask(), 3);
        c.due("no data", Check.told("disks 3;").ask(), -1);
        c.due("who without data", Check.told("disks 3;").who(), 7);
        ParitySpread z = Check.told("disks 4;block once 0 1 2;parity 2;");
        c.due("by disk 0", z.ask(), 0);
        z.see(1, false);
        c.due("by disk 0 still", z.ask(), 0);
        z.see(0, true);
        c.due("it was disk 0", z.who(), 1);
        c.due("none parts them", Check.told("disks 3;block once 0 1;").ask(), -1);
    }
}
