/** Promise 16: judged. */
public final class JudgedTest {
    private final Check c = new Check("judged");

    public static void main(String[] args) {
        JudgedTest t = new JudgedTest();
        t.runs();
        t.fromTheArrayAsTold();
        t.others();
        t.c.end();
    }

    private void judged(String array, String work, int line, int loads, int dead) {
        ParitySpread x = Check.told(array);
        c.due("work \"" + work + "\"", Check.work(x, work), 0);
        c.due("line of \"" + work + "\"", x.judged(0), line);
        c.due("loads of \"" + work + "\"", x.judged(1), loads);
        c.due("dead of \"" + work + "\"", x.judged(2), dead);
    }

    private void runs() {
        String told = "disks 5;block once 0 1 2;block once 0 1 2 3;";
        judged(told, "", -1, 0, 0);
        judged(told, "read 0;write 1 7;", -1, 5, 0);
        judged(told, "lose 1;read 0;write 0 3;write 2 3;", -1, 5, 0);
        judged(told, "lose 1;lose 1;read 1;", 1, 1, 0);
        judged(told, "replace 1;lose 0;replace 0;", 0, 0, 0);
        judged(told, "lose 1;lose 2;read 0;read 2;write 4 1;lose 3;", 2, 1, 2);
        judged(told, "lose 0;write 0 1;lose 1;read 2;write 0 1;", 3, 1, 2);
        judged(told, "lose 1;rebuild 40;replace 1;home 40;home 1;rebuild 1;read 0;", -1, 3 + 4 + 4 + 1, 0);
        judged(told, "lose 1;rebuild 1;replace 1;home 1;home 1;", -1, 3 + 2, 0);
        judged(told, "rebuild 3;home 3;lose 4;lose 4;lose 4;", 3, 0, 0);
    }

    /** What has been done by hand has no part in it, and it changes nothing. */
    private void fromTheArrayAsTold() {
        ParitySpread x = Check.told("disks 5;block once 0 1 2;block once 0 1 2 3;");
        x.write(0, 9);
        x.lose(0);
        x.lose(1);
        x.see(0, false);
        Check.work(x, "lose 0;read 0;rebuild 1;");
        c.due("line", x.judged(0), -1);
        c.due("loads", x.judged(1), 1 + 3);
        c.due("dead", x.judged(2), 0);
        c.due("dead now", x.count(7), 2);
        c.due("loads now", x.count(8), 4);
        c.due("up now", x.count(4), 28);
        c.due("seen", x.count(11), 1);
        c.due("lines", x.count(10), 3);
        c.due("again", x.judged(1), 4);
    }

    private void others() {
        ParitySpread x = Check.told("disks 5;block once 0 1 2;");
        int[] odd = {-1, 3, Integer.MIN_VALUE, Integer.MAX_VALUE};
        for (int what : odd) {
            c.due("judged(" + what + ")", x.judged(what), -2);
        }
    }
}
