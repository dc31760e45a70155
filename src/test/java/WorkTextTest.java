/** Promise 4: work, and the FAULTS of a WORK. */
public final class WorkTextTest {
    private final Check c = new Check("work text");
    private final ParitySpread x = Check.told("disks 7;block cycle 0 1 3;");

    public static void main(String[] args) {
        WorkTextTest t = new WorkTextTest();
        t.right();
        t.faults();
        t.tooMany();
        t.stays();
        t.c.end();
    }

    private void fault(String text, int place, int kind) {
        int lines = x.count(10);
        c.due("work \"" + text + "\"", Check.work(x, text), kind + 16 * place);
        c.due("lines stay", x.count(10), lines);
        c.due("taken", x.count(12), 0);
    }

    private void right(String text, int lines) {
        c.due("work \"" + text + "\"", Check.work(x, text), 0);
        c.due("lines of \"" + text + "\"", x.count(10), lines);
    }

    private void right() {
        right("", 0);
        right("read 0;read 13;", 2);
        right("write 0 0;write 13 255;", 2);
        right("lose 0;lose 6;replace 0;replace 6;", 4);
        right("rebuild 1;rebuild 40;home 1;home 40;", 4);
        right(" read\n3 ; write 1\n2;", 2);
        right("read0;write 1 2;home3;", 3);
        right(" ", 0);
    }

    private void faults() {
        fault(";", 0, 1);
        fault("3;", 0, 1);
        fault("disks 3;", 0, 1);
        fault("reads 3;", 0, 1);
        fault("read", 4, 1);
        fault("read;", 4, 1);
        fault("read 0", 6, 1);
        fault("read 0 ", 7, 1);
        fault("read 0 1;", 7, 1);
        fault("read 14;", 5, 4);
        fault("read 12345;", 5, 1);
        fault("read x;", 5, 1);
        fault("write 14 0;", 6, 4);
        fault("write 0 256;", 8, 4);
        fault("write 0;", 7, 1);
        fault("write 0 1 2;", 10, 1);
        fault("write 0 1", 9, 1);
        fault("lose 7;", 5, 4);
        fault("lose;", 4, 1);
        fault("replace 7;", 8, 4);
        fault("replace 6", 9, 1);
        fault("rebuild 0;", 8, 4);
        fault("rebuild 41;", 8, 4);
        fault("home 0;", 5, 4);
        fault("home 41;", 5, 4);
        fault("home;", 4, 1);
        fault("home 3 4;", 7, 1);
        fault("read 0;read 99;", 12, 4);
        fault("read 99;oops", 5, 4);
        ParitySpread none = new ParitySpread();
        c.due("no datum", Check.work(none, "read 0;"), 4 + 16 * 5);
        c.due("no disk", Check.work(none, "lose 0;"), 4 + 16 * 5);
        c.due("rebuild of nothing", Check.work(none, "rebuild 1;home 1;"), 0);
        c.due("lines", none.count(10), 2);
    }

    private void tooMany() {
        String forty = "home 1;".repeat(40);
        right(forty, 40);
        right("home 1;", 1);
        fault(forty + "home 1;", 280, 5);
        fault(forty + "read", 280, 5);
        fault(forty + " read 99;", 281, 5);
        fault(forty + ";", 280, 1);
        fault(forty + "rest", 280, 1);
        fault(forty + "7", 280, 1);
        right(forty, 40);
    }

    /** A WORK changes nothing else. */
    private void stays() {
        x.write(3, 200);
        x.lose(2);
        x.see(4, false);
        x.mark(0, false);
        int[] before = new int[13];
        for (int what = 0; what < 13; what++) {
            before[what] = x.count(what);
        }
        right("lose 0;rebuild 3;", 2);
        for (int what = 0; what < 13; what++) {
            c.due("count(" + what + ")", x.count(what), what == 10 ? 2 : before[what]);
        }
        c.due("byte", x.read(3), 200);
        c.due("mark", x.mark(0, true), true);
        c.due("a mark holds no work", x.count(10), 2);
    }
}
