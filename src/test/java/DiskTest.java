/** Promises 10 to 15: read, write, lose, replace, rebuild, home, with every LOAD. */
public final class DiskTest {
    /** Data 0, 1 on disks 1, 2 with parity on 0 and spare on 3; data 2, 3, 4 on 0, 2, 3 with parity on 1 and spare on 4. */
    private static final String TOLD = "disks 5;block once 0 1 2;block once 0 1 2 3;";

    private final Check c = new Check("disk");

    public static void main(String[] args) {
        DiskTest t = new DiskTest();
        t.allInTurn();
        t.dead();
        t.spareTaken();
        t.awayLost();
        t.homeInDeadStripe();
        t.limits();
        t.small();
        t.others();
        t.c.end();
    }

    private void loads(ParitySpread x, String when, int... due) {
        int sum = 0;
        for (int d = 0; d < due.length; d++) {
            c.due("loads of disk " + d + " " + when, x.disk(d, 4), due[d]);
            sum += due[d];
        }
        c.due("loads in all " + when, x.count(8), sum);
    }

    private void allInTurn() {
        ParitySpread x = Check.told(TOLD);
        c.due("write 0", x.write(0, 5), 4);
        c.due("write 1", x.write(1, 9), 4);
        loads(x, "after two writings", 4, 2, 2, 0, 0);
        c.due("parity", x.unit(0, 0, 3), 12);
        c.due("read", x.read(0), 5);
        c.due("write 4", x.write(4, 255), 4);
        loads(x, "all up", 4, 5, 2, 2, 0);
        c.due("lose 1", x.lose(1), 2);
        c.due("lose 1 again", x.lose(1), -1);
        c.due("read of what is lost", x.read(0), 5);
        loads(x, "after a reading of all others", 5, 5, 3, 2, 0);
        c.due("write, parity lost", x.write(2, 7), 1);
        c.due("write, it is lost", x.write(0, 6), 2);
        c.due("it is lost still", x.unit(0, 1, 2), 2);
        loads(x, "after two writings with a loss", 7, 5, 4, 2, 0);
        c.due("its byte", x.read(0), 6);
        c.due("another's byte", x.read(2), 7);
        c.due("rebuild one", x.rebuild(1), 1);
        loads(x, "after one is rebuilt", 10, 5, 6, 3, 0);
        c.due("where it is", x.datum(0, 2), 3);
        c.due("read of what is away", x.read(0), 6);
        c.due("write of what is away", x.write(0, 1), 4);
        loads(x, "with one away", 12, 5, 6, 6, 0);
        c.due("rebuild the parity", x.rebuild(1), 1);
        loads(x, "after both are rebuilt", 13, 5, 7, 7, 1);
        c.due("rebuild nothing", x.rebuild(40), 0);
        c.due("parity's byte", x.unit(1, 1, 3), 7 ^ 255);
        c.due("write with the parity away", x.write(3, 1), 4);
        loads(x, "after that", 13, 5, 9, 7, 3);
        homeAgain(x);
    }

    private void homeAgain(ParitySpread x) {
        c.due("home, it is down", x.home(5), 0);
        c.due("replace", x.replace(1), true);
        c.due("replace again", x.replace(1), false);
        c.due("nothing on it", x.disk(1, 5), 0);
        c.due("home one", x.home(1), 1);
        loads(x, "after one is home", 13, 6, 9, 8, 3);
        c.due("home", x.home(40), 1);
        loads(x, "after both are home", 13, 7, 9, 8, 4);
        c.due("home none", x.home(40), 0);
        c.due("on it", x.disk(1, 5), 2);
        c.due("read", x.read(0), 1);
        c.due("parity's byte", x.unit(1, 1, 3), 7 ^ 255 ^ 1);
        loads(x, "at last", 13, 8, 9, 8, 4);
    }

    private void dead() {
        ParitySpread x = Check.told(TOLD);
        x.write(0, 77);
        x.lose(0);
        c.due("lose 2", x.lose(2), 2);
        c.due("dead", x.count(7), 2);
        int before = x.count(8);
        c.due("read of what is lost", x.read(1), -1);
        c.due("write of what is lost", x.write(1, 1), -1);
        c.due("write of what is there", x.write(0, 1), -1);
        c.due("rebuild", x.rebuild(40), 0);
        c.due("no loads", x.count(8), before);
        c.due("read of what is there", x.read(0), 77);
        c.due("one load", x.count(8), before + 1);
        c.due("replace 0", x.replace(0), true);
        c.due("replace 2", x.replace(2), true);
        c.due("rebuild of the dead", x.rebuild(40), 0);
        c.due("dead still", x.count(7), 2);
    }

    /** The spare's disk is up, but another unit of the stripe is on it. */
    private void spareTaken() {
        ParitySpread x = Check.told("disks 5;block once 0 1 2;");
        x.lose(0);
        c.due("first into the spare", x.rebuild(1), 1);
        x.lose(1);
        c.due("second stays", x.rebuild(1), 0);
        c.due("not dead", x.count(7), 0);
        x.replace(1);
        c.due("second to its own disk", x.rebuild(1), 1);
        c.due("one away", x.count(6), 1);
        x.replace(0);
        c.due("first home", x.home(1), 1);
        c.due("none away", x.count(6), 0);
    }

    private void awayLost() {
        ParitySpread x = Check.told("disks 5;block once 0 1 2;");
        x.write(0, 3);
        x.lose(1);
        x.rebuild(1);
        c.due("lose the spare's disk", x.lose(3), 1);
        c.due("lost", x.stripe(0, 4), 2);
        c.due("no place", x.rebuild(1), 0);
        x.replace(3);
        c.due("the spare again", x.rebuild(1), 1);
        c.due("away", x.stripe(0, 5), 1);
        x.replace(1);
        c.due("rebuild does not bring home", x.rebuild(1), 0);
        c.due("lose the spare's disk again", x.lose(3), 1);
        c.due("home at once", x.rebuild(1), 1);
        c.due("home", x.unit(0, 1, 2), 0);
        c.due("byte", x.read(0), 3);
    }

    private void homeInDeadStripe() {
        ParitySpread x = Check.told("disks 5;block once 0 1 2;");
        x.lose(0);
        x.rebuild(1);
        x.lose(1);
        x.lose(2);
        c.due("dead", x.count(7), 1);
        x.replace(0);
        c.due("home all the same", x.home(1), 1);
        c.due("home", x.unit(0, 0, 2), 0);
    }

    /** Stripes left as they are do not count; the order is theirs. */
    private void limits() {
        ParitySpread x = Check.told("disks 4;block once 0 1;block once 0 1 2 3;block once 0 2;block once 0 3;");
        x.lose(0);
        c.due("two", x.rebuild(2), 2);
        c.due("the first", x.stripe(0, 4), 0);
        c.due("without a spare", x.stripe(1, 4), 1);
        c.due("the third", x.stripe(2, 4), 0);
        c.due("the fourth not yet", x.stripe(3, 4), 1);
        c.due("the fourth", x.rebuild(2), 1);
        x.replace(0);
        c.due("home two", x.home(2), 2);
        c.due("the last is away", x.stripe(3, 5), 0);
        c.due("rebuild the second", x.rebuild(1), 1);
        c.due("home the last", x.home(2), 1);
    }

    /** A stripe of two: what is lost is written by the parity alone. */
    private void small() {
        ParitySpread x = Check.told("disks 2;block once 0 1;");
        c.due("write", x.write(0, 8), 4);
        x.lose(1);
        c.due("write lost", x.write(0, 9), 1);
        c.due("loads of the parity", x.disk(0, 4), 3);
        c.due("loads of the datum", x.disk(1, 4), 2);
        c.due("read lost", x.read(0), 9);
        c.due("no spare", x.rebuild(1), 0);
        x.replace(1);
        c.due("home", x.rebuild(1), 1);
        c.due("byte", x.read(0), 9);
    }

    private void others() {
        ParitySpread x = Check.told(TOLD);
        int[] odd = {-1, 5, Integer.MIN_VALUE, Integer.MAX_VALUE};
        for (int i : odd) {
            c.due("read " + i, x.read(i), -1);
            c.due("write " + i, x.write(i, 0), -1);
            c.due("lose " + i, x.lose(i), -1);
            c.due("replace " + i, x.replace(i), false);
        }
        int[] values = {-1, 256, Integer.MIN_VALUE, Integer.MAX_VALUE};
        for (int v : values) {
            c.due("write value " + v, x.write(0, v), -1);
        }
        int[] many = {0, 41, -1, Integer.MIN_VALUE, Integer.MAX_VALUE};
        for (int i : many) {
            c.due("rebuild " + i, x.rebuild(i), -1);
            c.due("home " + i, x.home(i), -1);
        }
        c.due("no loads", x.count(8), 0);
        c.due("bytes 255", x.write(0, 255), 4);
        c.due("bytes 0", x.write(0, 0), 4);
        c.due("replace of one that is up", x.replace(0), false);
        c.due("rebuild 40 of none", x.rebuild(40), 0);
        c.due("home 40 of none", x.home(40), 0);
    }
}
