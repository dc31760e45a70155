/** Promises 24 to 30: cost, price, would, time, bears, risk, grow. */
public final class OutlookTest {
    private static final String FANO = "disks 7;block cycle 0 1 3;speed 2;";
    /** Data 0, 1 on disks 1, 2 with parity on 0; data 2, 3, 4 on 0, 2, 3 with parity on 1. */
    private static final String TWO = "disks 5;block once 0 1 2;block once 0 1 2 3;";
    private static final int[] ODD = {-1, 99, Integer.MIN_VALUE, Integer.MAX_VALUE};

    private final Check c = new Check("outlook");

    public static void main(String[] args) {
        OutlookTest t = new OutlookTest();
        t.costAndPrice();
        t.would();
        t.time();
        t.timeLeavesOut();
        t.bearsAndRisk();
        t.grow();
        t.c.end();
    }

    private void costAndPrice() {
        ParitySpread x = Check.told(TWO);
        for (int d = 0; d < 5; d++) {
            costs(x, "all up", d, 1, 4);
        }
        x.lose(1);
        costs(x, "lost", 0, 2, 2);
        costs(x, "another lost", 1, 1, 4);
        costs(x, "parity lost", 4, 1, 1);
        x.rebuild(1);
        costs(x, "away", 0, 1, 4);
        x.lose(0);
        costs(x, "away with the parity lost", 0, 1, 1);
        costs(x, "lost and dead", 2, -1, -1);
        costs(x, "there and dead", 3, 1, -1);
        c.due("nothing is done", x.count(8), 3);
        for (int i : ODD) {
            costs(x, "other", i, -1, -1);
        }
        costs(x, "beyond", 5, -1, -1);
        ParitySpread y = Check.told(TWO);
        y.lose(3);
        costs(y, "lost of four", 4, 3, 3);
    }

    private void costs(ParitySpread x, String when, int datum, int cost, int price) {
        c.due("cost(" + datum + ") " + when, x.cost(datum), cost);
        c.due("price(" + datum + ") " + when, x.price(datum), price);
    }

    private void would() {
        ParitySpread x = Check.told(FANO);
        for (int a = 0; a < 7; a++) {
            for (int b = 0; b < 7; b++) {
                c.due("would(" + a + ", " + b + ")", x.would(a, b), a == b ? -1 : 1);
            }
            for (int i : ODD) {
                c.due("would(" + i + ", " + a + ")", x.would(i, a), -1);
                c.due("would(" + a + ", " + i + ")", x.would(a, i), -1);
            }
        }
        x.lose(1);
        c.due("would of one down", x.would(1, 0), -1);
        c.due("would from one down", x.would(0, 1), -1);
        c.due("would of a stripe with a loss", x.would(0, 3), 0);
        c.due("would of another", x.would(0, 2), 1);
        x.rebuild(1);
        c.due("would with one away", x.would(0, 3), 1);
        c.due("would from the spare", x.would(0, 2), 2);
        c.due("would of the spare", x.would(2, 0), 2);
        c.due("7 is none", x.would(7, 0), -1);
    }

    private void time() {
        ParitySpread x = Check.told(FANO);
        c.due("time(0, 0)", x.time(0, 0), 1);
        c.due("time(0, 1)", x.time(0, 1), 2);
        c.due("time(0, 2)", x.time(0, 2), -1);
        c.due("time(0, -1)", x.time(0, -1), -1);
        for (int i : ODD) {
            c.due("time(" + i + ", 0)", x.time(i, 0), -1);
            c.due("time(0, " + i + ")", x.time(0, i), -1);
        }
        String four = "disks 4;block twice 0 1;block twice 0 1;";
        int[] ticks = {4, 2, 2, 1, 1};
        for (int speed = 1; speed <= 5; speed++) {
            ParitySpread y = Check.told(four + "speed " + speed + ";");
            for (int readers = 0; readers < speed; readers++) {
                c.due("speed " + speed + ", readers " + readers, y.time(0, readers), ticks[speed - readers - 1]);
                c.due("the same from disk 0", y.time(1, readers), ticks[speed - readers - 1]);
            }
            c.due("readers " + speed, y.time(0, speed), -1);
            c.due("nothing on it", y.time(2, 0), 0);
        }
        c.due("speed not told", Check.told(four).time(0, 3), 4);
        c.due("speed not told", Check.told(four).time(0, 4), -1);
        ParitySpread z = Check.told("disks 6;block once 0 1;block once 0 1;block once 0 2;speed 1;");
        c.due("the spare takes loads too", z.time(0, 0), 3);
        ParitySpread w = Check.told("disks 7;block twice 3 4;block twice 0 1;block twice 0 5;speed 1;");
        c.due("one that can't does not keep others back", w.time(0, 0), 2);
        c.due("no disks", new ParitySpread().time(0, 0), -1);
    }

    private void timeLeavesOut() {
        ParitySpread x = Check.told("disks 2;block twice 0 1;");
        c.due("no spare", x.time(0, 0), 0);
        ParitySpread y = Check.told("disks 4;block once 0 1;block once 0 1;block once 0 1;speed 1;");
        c.due("three", y.time(0, 0), 3);
        y.lose(2);
        c.due("a spare is down", y.time(0, 0), 1);
        c.due("it is down", y.time(2, 0), -1);
        y.replace(2);
        c.due("the spare is up again", y.time(0, 0), 3);
        y.lose(1);
        c.due("all with a loss", y.time(0, 0), 0);
        y.rebuild(1);
        c.due("one away on another", y.time(0, 0), 0);
        c.due("one away on it", y.time(2, 0), 0);
        y.replace(1);
        y.rebuild(40);
        c.due("all but the one away", y.time(0, 0), 2);
        y.home(1);
        c.due("all", y.time(0, 0), 3);
        c.due("nothing is done by it", y.count(5), 0);
    }

    private void bearsAndRisk() {
        ParitySpread x = Check.told("disks 6;block once 0 1;block once 2 3;block once 4 5;");
        bears(x, 1, 1, 1, 1, 1, 1);
        c.due("risk", x.risk(), 3);
        x.lose(0);
        bears(x, 0, 0, 1, 1, 1, 1);
        c.due("risk with a loss", x.risk(), 6);
        x.lose(1);
        bears(x, 0, 0, 1, 1, 1, 1);
        c.due("risk with one dead", x.risk(), 2);
        for (int i : ODD) {
            c.due("bears(" + i + ")", x.bears(i), false);
        }
        c.due("bears(6)", x.bears(6), false);
        ParitySpread y = Check.told(FANO);
        c.due("risk of all pairs", y.risk(), 21);
        y.lose(1);
        bears(y, 0, 0, 0, 0, 0, 0, 0);
        c.due("risk", y.risk(), 15);
        y.rebuild(40);
        bears(y, 1, 0, 1, 1, 1, 1, 1);
        c.due("risk with three away", y.risk(), 15);
        c.due("nothing is lost by it", y.count(5), 0);
        c.due("risk of stripes that share nothing", Check.told("disks 3;").risk(), 0);
        ParitySpread z = Check.told("disks 5;block once 0 1;");
        c.due("risk of one pair", z.risk(), 1);
        z.lose(0);
        c.due("risk by one of them", z.risk(), 3);
        z.rebuild(1);
        c.due("risk by where it is now", z.risk(), 1);
    }

    private void bears(ParitySpread x, int... due) {
        for (int d = 0; d < due.length; d++) {
            c.due("bears(" + d + ")", x.bears(d), due[d] == 1);
        }
    }

    private void grow() {
        grow("disks 7;block cycle 0 1 3;", 1, 3, 2);
        grow("disks 3;block once 0 1;block mirror 0 1;", 1, 1, 1);
        grow("disks 3;block once 0 1;block mirror 0 1;", 2, 1, 2);
        grow("disks 3;block once 0 1;block mirror 0 1;", 3, 1, 3);
        grow("disks 3;block cycle 0 1;block once 0 1;", 1, 2, 2);
        grow("disks 3;block mirror 0 1;block once 2 1;parity 0;", 1, 2, 1);
        grow("disks 3;block mirror 0 1;parity first=2;", 1, 0, 1);
        grow("disks 3;", 3, 0, 0);
        grow("disks 3;block once 0 1 2;", 4, -1, -1);
        grow("disks 3;block once 0 1 2;", 1, 0, 0);
        grow("disks 3;block once 0 1 2;", 3, 0, 1);
        grow("disks 4;block once 0 1 2;block twice 0 1;block cycle 0 1;", 1, 1, 3);
        grow("disks 9;" + "block cycle 0 1;".repeat(4), 1, 28, 7);
        grow("disks 12;block cycle 0 1;", 1, 0, 1);
        grow("disks 12;block cycle 0 1;", 2, -1, -1);
        grow("disks 13;block once 0 1;", 1, -1, -1);
        grow("disks 10;block once 0 1;", 3, 0, 0);
        grow("disks 10;block once 0 1;", 4, -1, -1);
        grow("disks 10;block once 0 1;", 0, -1, -1);
        grow("disks 10;block once 0 1;", -1, -1, -1);
        String forty = "disks 10;block cycle 0 1;block cycle 0 1;block cycle 0 1;block cycle 0 1;";
        grow(forty, 1, -1, -1);
        grow("disks 9;block cycle 0 1;block cycle 0 1;block cycle 0 1;block cycle 0 1;", 2, -1, -1);
        ParitySpread x = Check.told(FANO);
        for (int i : ODD) {
            c.due("grow by " + i, x.grow(i, 0), -1);
            c.due("grow what " + i, x.grow(1, i), -1);
        }
        c.due("grow what 2", x.grow(1, 2), -1);
        x.lose(0);
        x.rebuild(40);
        c.due("grow is of the array as told", x.grow(1, 0), 3);
        c.due("nothing has grown", x.count(0), 7);
        c.due("no datum has", x.count(3), 14);
        c.due("no disks", new ParitySpread().grow(1, 1), -1);
    }

    private void grow(String told, int more, int moved, int least) {
        ParitySpread x = Check.told(told);
        c.due(told + " grow(" + more + ", 0)", x.grow(more, 0), moved);
        c.due(told + " grow(" + more + ", 1)", x.grow(more, 1), least);
    }
}
