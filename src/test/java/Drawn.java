/** The DRAWS of a SEED, and what LOADS does by them, done by hand on an object. */
final class Drawn {
    private long g;

    Drawn(int seed) {
        g = seed;
    }

    int below(int m) {
        g = (g * 1103515245 + 12345) % 2147483648L;
        return (int) (g / 65536 % m);
    }

    void perform(ParitySpread y, int many) {
        for (int i = 0; i < many; i++) {
            int kind = below(8);
            if (kind < 5) {
                int datum = below(y.count(3));
                int value = below(256);
                if (kind < 3) {
                    y.read(datum);
                } else {
                    y.write(datum, value);
                }
            } else if (kind == 5) {
                y.lose(below(y.count(0)));
            } else if (kind == 6) {
                y.replace(below(y.count(0)));
            } else {
                y.rebuild(1 + below(4));
            }
        }
    }

    /** By how much the DISK with the most LOADS is above the one with the fewest. */
    static int spread(ParitySpread y) {
        int most = 0;
        int fewest = Integer.MAX_VALUE;
        for (int d = 0; d < y.count(0); d++) {
            most = Math.max(most, y.disk(d, 4));
            fewest = Math.min(fewest, y.disk(d, 4));
        }
        return most - fewest;
    }
}
