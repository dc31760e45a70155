/** Promises 5 to 9: stripe, unit, datum, at, disk, of an ARRAY worked out by hand. */
public final class LayoutTest {
    static final String TOLD = "disks 4;block once 0 1 2;block twice 3 1;block mirror 0 1 2;block cycle 0 1;";
    private static final int[][] DISKS = {{0, 1, 2}, {3, 1}, {3, 1}, {0, 1, 2}, {3, 2, 1}, {0, 1}, {1, 2}, {2, 3}, {3, 0}};
    private static final int[][] PLACES = {{0, 0, 0}, {0, 1}, {1, 2}, {1, 3, 1}, {2, 2, 4}, {2, 5}, {6, 3}, {4, 3}, {4, 3}};
    private static final int[] PARITY = {0, 1, 0, 0, 1, 1, 0, 1, 0};
    private static final int[] BLOCK = {0, 1, 1, 2, 2, 3, 3, 3, 3};
    private static final int[] SPARE = {3, 0, 2, 3, 0, 2, 0, 1, 1};
    private static final int[] SPARE_PLACE = {5, 4, 5, 6, 5, 6, 6, 7, 8};
    private static final int[] UNITS_ON = {4, 7, 5, 5};
    private static final int[] PARITIES_ON = {2, 3, 1, 3};
    private static final int[] SPARES_ON = {3, 2, 2, 2};

    private final Check c = new Check("layout");
    private final ParitySpread x = Check.told(TOLD);

    public static void main(String[] args) {
        LayoutTest t = new LayoutTest();
        t.stripes();
        t.unitsAndData();
        t.places();
        t.disks();
        t.afterLoss();
        t.noSpare();
        t.most();
        t.others();
        t.c.end();
    }

    private void stripes() {
        c.due("stripes", x.count(2), DISKS.length);
        for (int s = 0; s < DISKS.length; s++) {
            c.due("size of " + s, x.stripe(s, 0), DISKS[s].length);
            c.due("parity of " + s, x.stripe(s, 1), PARITY[s]);
            c.due("spare of " + s, x.stripe(s, 2), SPARE[s]);
            c.due("block of " + s, x.stripe(s, 3), BLOCK[s]);
            c.due("lost of " + s, x.stripe(s, 4), 0);
            c.due("away of " + s, x.stripe(s, 5), -1);
        }
    }

    private void unitsAndData() {
        int datum = 0;
        for (int s = 0; s < DISKS.length; s++) {
            for (int u = 0; u < DISKS[s].length; u++) {
                String of = " of " + s + ", " + u;
                c.due("disk" + of, x.unit(s, u, 0), DISKS[s][u]);
                c.due("place" + of, x.unit(s, u, 1), PLACES[s][u]);
                c.due("home" + of, x.unit(s, u, 2), 0);
                c.due("byte" + of, x.unit(s, u, 3), 0);
                c.due("datum" + of, x.unit(s, u, 4), u == PARITY[s] ? -1 : datum);
                if (u != PARITY[s]) {
                    c.due("stripe of datum " + datum, x.datum(datum, 0), s);
                    c.due("unit of datum " + datum, x.datum(datum, 1), u);
                    c.due("disk of datum " + datum, x.datum(datum, 2), DISKS[s][u]);
                    c.due("place of datum " + datum, x.datum(datum, 3), PLACES[s][u]);
                    datum++;
                }
            }
        }
        c.due("data", x.count(3), datum);
    }

    private void places() {
        int[][] held = new int[4][10];
        for (int[] row : held) {
            java.util.Arrays.fill(row, -1);
        }
        for (int s = 0; s < DISKS.length; s++) {
            for (int u = 0; u < DISKS[s].length; u++) {
                held[DISKS[s][u]][PLACES[s][u]] = 8 * s + u;
            }
            held[SPARE[s]][SPARE_PLACE[s]] = 8 * s + 7;
        }
        for (int d = 0; d < 4; d++) {
            for (int p = 0; p < 10; p++) {
                c.due("at(" + d + ", " + p + ")", x.at(d, p), held[d][p]);
            }
        }
    }

    private void disks() {
        for (int d = 0; d < 4; d++) {
            c.due("up " + d, x.disk(d, 0), 1);
            c.due("units on " + d, x.disk(d, 1), UNITS_ON[d]);
            c.due("parities on " + d, x.disk(d, 2), PARITIES_ON[d]);
            c.due("spares on " + d, x.disk(d, 3), SPARES_ON[d]);
            c.due("loads of " + d, x.disk(d, 4), 0);
            c.due("there on " + d, x.disk(d, 5), UNITS_ON[d]);
        }
    }

    /** Disk 1 is lost and two of its units are rebuilt, the first and the second stripe's. */
    private void afterLoss() {
        x.write(0, 6);
        x.write(1, 3);
        c.due("loads of the parity's disk", x.disk(0, 4), 4);
        c.due("loads of a datum's disk", x.disk(2, 4), 2);
        c.due("lose", x.lose(1), 7);
        c.due("down", x.disk(1, 0), 0);
        c.due("loads stay", x.disk(1, 4), 2);
        c.due("nothing there", x.disk(1, 5), 0);
        c.due("units as told", x.disk(1, 1), 7);
        c.due("lost of 0", x.stripe(0, 4), 2);
        c.due("lost of 4", x.stripe(4, 4), 4);
        c.due("lost of 7", x.stripe(7, 4), 0);
        c.due("unit lost", x.unit(0, 1, 2), 2);
        c.due("its byte", x.unit(0, 1, 3), 6);
        c.due("its disk", x.unit(0, 1, 0), 1);
        c.due("its place", x.unit(0, 1, 1), 0);
        c.due("datum lost, disk", x.datum(0, 2), -1);
        c.due("datum lost, place", x.datum(0, 3), -1);
        c.due("datum lost, stripe", x.datum(0, 0), 0);
        c.due("at stays", x.at(1, 0), 1);
        c.due("rebuild", x.rebuild(2), 2);
        c.due("away of 0", x.stripe(0, 5), 1);
        c.due("lost of 0 then", x.stripe(0, 4), 0);
        c.due("unit away", x.unit(0, 1, 2), 1);
        c.due("own disk", x.unit(0, 1, 0), 1);
        c.due("own place", x.unit(0, 1, 1), 0);
        c.due("datum away, disk", x.datum(0, 2), 3);
        c.due("datum away, place", x.datum(0, 3), 5);
        c.due("there on 3", x.disk(3, 5), 6);
        c.due("there on 0", x.disk(0, 5), 5);
        c.due("parity's byte", x.unit(0, 0, 3), 5);
        c.due("lose 2", x.lose(2), 5);
        c.due("dead", x.count(7), 3);
        c.due("byte lost in a dead stripe", x.unit(3, 1, 3), -1);
        c.due("byte there in a dead stripe", x.unit(3, 0, 3), 0);
        c.due("byte lost in a stripe that is not", x.unit(0, 2, 3), 3);
    }

    private void noSpare() {
        ParitySpread y = Check.told("disks 3;block once 2 0 1;block once 0 1;");
        c.due("no spare", y.stripe(0, 2), -1);
        c.due("spare", y.stripe(1, 2), 2);
        c.due("its place", y.at(2, 1), 15);
        c.due("order told", y.unit(0, 0, 0), 2);
        c.due("nothing behind", y.at(2, 2), -1);
    }

    /** As many disks, stripes and data as can be. */
    private void most() {
        String cycle = "block cycle 0 1 3 9 12;";
        ParitySpread y = Check.told("disks 13;" + cycle + cycle + cycle + "block once 12 11 10 9 8;parity 4;");
        c.due("40 stripes", y.count(2), 40);
        c.due("160 data", y.count(3), 160);
        c.due("the last datum's stripe", y.datum(159, 0), 39);
        c.due("the last datum's unit", y.datum(159, 1), 3);
        c.due("the last datum's disk", y.datum(159, 2), 9);
        c.due("its place", y.datum(159, 3), 15);
        c.due("write", y.write(159, 255), 4);
        c.due("parity", y.unit(39, 4, 3), 255);
        for (int d = 0; d < 13; d++) {
            c.due("units on " + d, y.disk(d, 1), d < 8 ? 15 : 16);
        }
        c.due("lose", y.lose(12), 16);
        c.due("lost(15)", y.lost(15), 39 * 8);
        c.due("rebuild", y.rebuild(40), 16);
        c.due("risk", y.risk(), 66);
    }

    private void others() {
        int[] odd = {-1, Integer.MIN_VALUE, Integer.MAX_VALUE};
        for (int i : odd) {
            c.due("stripe", x.stripe(i, 0), -2);
            c.due("stripe what", x.stripe(0, i), -2);
            c.due("unit's stripe", x.unit(i, 0, 0), -2);
            c.due("unit", x.unit(0, i, 0), -2);
            c.due("unit what", x.unit(0, 0, i), -2);
            c.due("datum", x.datum(i, 0), -2);
            c.due("datum what", x.datum(0, i), -2);
            c.due("at disk", x.at(i, 0), -1);
            c.due("at place", x.at(0, i), -1);
            c.due("disk", x.disk(i, 1), -1);
            c.due("disk what", x.disk(0, i), -1);
        }
        c.due("stripe 9", x.stripe(9, 0), -2);
        c.due("stripe what 6", x.stripe(0, 6), -2);
        c.due("unit 3", x.unit(0, 3, 0), -2);
        c.due("unit 2 of two", x.unit(1, 2, 0), -2);
        c.due("unit of stripe 9", x.unit(9, 0, 0), -2);
        c.due("unit what 5", x.unit(0, 0, 5), -2);
        c.due("datum 12", x.datum(12, 0), -2);
        c.due("datum what 4", x.datum(0, 4), -2);
        c.due("at disk 4", x.at(4, 0), -1);
        c.due("disk 4", x.disk(4, 1), -1);
        c.due("disk what 6", x.disk(0, 6), -1);
    }
}
