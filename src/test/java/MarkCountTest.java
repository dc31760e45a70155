/** Promises 36 and 37: mark, count. */
public final class MarkCountTest {
    private static final String FANO = "disks 7;block cycle 0 1 3;speed 2;";

    private final Check c = new Check("mark, count");

    public static void main(String[] args) {
        MarkCountTest t = new MarkCountTest();
        t.marks();
        t.notTheTexts();
        t.noneSuch();
        t.count();
        t.c.end();
    }

    private void counts(ParitySpread x, String when, int... due) {
        for (int what = 0; what < due.length; what++) {
            c.due("count(" + what + ") " + when, x.count(what), due[what]);
        }
    }

    private void marks() {
        ParitySpread x = Check.told(FANO);
        x.write(0, 5);
        x.see(0, true);
        c.due("lay 0", x.mark(0, false), true);
        x.lose(1);
        x.write(0, 6);
        x.rebuild(1);
        x.see(1, false);
        c.due("lay 1", x.mark(1, false), true);
        x.lose(0);
        x.replace(1);
        c.due("back to 1", x.mark(1, true), true);
        counts(x, "at 1", 7, 1, 7, 14, 125, 2, 1, 0, 4 + 2 + 3, 2, 0, 2, 0);
        c.due("byte at 1", x.unit(0, 1, 3), 6);
        c.due("where at 1", x.datum(0, 2), 2);
        c.due("loads at 1", x.disk(2, 4), 1);
        c.due("back to 0", x.mark(0, true), true);
        counts(x, "at 0", 7, 1, 7, 14, 127, 0, 0, 0, 4, 2, 0, 1, 0);
        c.due("byte at 0", x.unit(0, 1, 3), 5);
        c.due("who at 0", x.who(), 2);
        x.write(0, 99);
        c.due("back to 0 again", x.mark(0, true), true);
        c.due("byte at 0 again", x.unit(0, 1, 3), 5);
        c.due("1 is there still", x.mark(1, true), true);
        c.due("who at 1", x.who(), 4);
        seenOfMarks();
        x.lose(0);
        c.due("lay 0 anew", x.mark(0, false), true);
        x.replace(0);
        c.due("back to the new 0", x.mark(0, true), true);
        c.due("up at the new 0", x.count(4), 124);
    }

    private void seenOfMarks() {
        ParitySpread x = Check.told(FANO);
        x.see(0, true);
        x.mark(0, false);
        Check.feed(x, "x");
        x.see(3, false);
        x.mark(1, false);
        ParitySpread y = Check.told(FANO);
        y.mark(0, false);
        y.see(0, false);
        y.mark(1, false);
        y.mark(0, true);
        y.see(1, true);
        c.due("who by 1", y.who(), 8);
        y.mark(1, true);
        c.due("who by not 0", y.who(), 125);
        y.mark(0, true);
        c.due("who by nothing", y.who(), 127);
        y.see(2, true);
        c.due("who by 2", y.who(), 2);
        x.mark(0, true);
        x.see(2, false);
        c.due("who by 0, not 2", x.who(), 0);
        x.mark(1, true);
        c.due("who by 0, not 3", x.who(), 2);
    }

    private void notTheTexts() {
        ParitySpread x = Check.told(FANO);
        Check.work(x, "read 0;");
        Check.feed(x, "abc");
        x.mark(0, false);
        Check.work(x, "");
        Check.work(x, "read 0;read 1;lose 2;");
        Check.feed(x, "disks");
        x.mark(0, true);
        c.due("the work stays", x.count(10), 3);
        c.due("the tape stays", x.count(12), 5);
        Check.array(x, " 3;");
        c.due("no mark by an array", x.mark(0, true), false);
        c.due("the array", x.count(0), 3);
        c.due("a fault leaves", x.mark(0, false), true);
        Check.array(x, "oops");
        c.due("the mark", x.mark(0, true), true);
    }

    private void noneSuch() {
        ParitySpread x = Check.told(FANO);
        int[] odd = {-1, 2, Integer.MIN_VALUE, Integer.MAX_VALUE};
        for (int i : odd) {
            c.due("mark(" + i + ", false)", x.mark(i, false), false);
            c.due("mark(" + i + ", true)", x.mark(i, true), false);
        }
        c.due("nothing on 0", x.mark(0, true), false);
        c.due("lay 0", x.mark(0, false), true);
        c.due("nothing on 1", x.mark(1, true), false);
        c.due("something on 0", x.mark(0, true), true);
    }

    private void count() {
        ParitySpread x = Check.told("disks 7;block cycle 0 1 3;block once 0 1;speed 9;");
        counts(x, "at first", 7, 2, 8, 15, 127, 0, 0, 0, 0, 9, 0, 0, 0);
        x.lose(1);
        x.lose(0);
        counts(x, "after two losses", 7, 2, 8, 15, 124, 8, 0, 2, 0, 9, 0, 0, 0);
        x.rebuild(40);
        counts(x, "after a rebuild", 7, 2, 8, 15, 124, 6, 2, 2, 6, 9, 0, 0, 0);
        x.see(0, false);
        Check.work(x, "home 1;home 1;");
        Check.feed(x, "a b");
        counts(x, "at last", 7, 2, 8, 15, 124, 6, 2, 2, 6, 9, 2, 1, 3);
        int[] odd = {-1, 13, Integer.MIN_VALUE, Integer.MAX_VALUE};
        for (int i : odd) {
            c.due("count(" + i + ")", x.count(i), -1);
        }
    }
}
