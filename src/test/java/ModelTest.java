import java.util.NoSuchElementException;
import java.util.Random;

/** Promises 1 to 37: random runs of calls, each answer held against the Model's. */
public final class ModelTest {
    private static final int RUNS = 600;
    private static final int CALLS = 500;
    private static final int[] ODD = {-1, Integer.MIN_VALUE, Integer.MAX_VALUE, -2, 256, 40, 41, 13, 100, 10000};

    private final Random random;
    private final ParitySpread x = new ParitySpread();
    private final Model m = new Model();
    private final StringBuilder told = new StringBuilder();
    private final boolean wild;
    private int calls;

    private ModelTest(long seed) {
        random = new Random(seed);
        wild = seed % 5 == 0;
    }

    public static void main(String[] args) {
        Check c = new Check("model");
        int runs = args.length > 0 ? Integer.parseInt(args[0]) : RUNS;
        int from = args.length > 1 ? Integer.parseInt(args[1]) : 0;
        for (int seed = from; seed < from + runs; seed++) {
            new ModelTest(seed).run(c, seed);
        }
        c.end();
    }

    private void run(Check c, int seed) {
        boolean right = true;
        while (right && calls < CALLS) {
            right = random.nextInt(60) == 0 || calls == 0 ? tellArray(c)
                : random.nextInt(50) == 0 ? tellWork(c) : call(c, random.nextInt(34));
        }
        if (!right) {
            System.out.println("run " + seed + " in all:\n" + told);
        }
    }

    private int pick(int below) {
        return random.nextInt(25) == 0 ? ODD[random.nextInt(ODD.length)] : random.nextInt(Math.max(1, below) + 1);
    }

    private int disk() {
        return pick(m.disks - 1);
    }

    private int datum() {
        return pick(m.data.size() - 1);
    }

    private boolean same(Check c, String call, long got, long want) {
        calls++;
        told.append("  ").append(call).append(" -> ").append(got).append('\n');
        c.due(call, got, want);
        return got == want;
    }

    private boolean tell(Check c, String text) {
        told.append("  text ").append(text).append('\n');
        for (int i = 0; i < text.length(); i += 24) {
            long[] bytes = new long[3];
            for (int k = i; k < i + 24 && k < text.length(); k++) {
                bytes[(k - i) / 8] |= (long) (text.charAt(k) & 255) << 56 - 8 * ((k - i) % 8);
            }
            if (!same(c, "feed", x.feed(bytes[0], bytes[1], bytes[2]), m.feed(bytes[0], bytes[1], bytes[2]))) {
                return false;
            }
        }
        return true;
    }

    private boolean tellArray(Check c) {
        boolean broken = random.nextInt(wild ? 2 : 8) == 0;
        String text = new Texts(random).array();
        return tell(c, broken ? new Texts(random).spoilt(text) : text) && same(c, "array()", x.array(), m.array());
    }

    private boolean tellWork(Check c) {
        boolean broken = random.nextInt(wild ? 2 : 8) == 0;
        String text = new Texts(random).work(m.data.size(), m.disks);
        return tell(c, broken ? new Texts(random).spoilt(text) : text) && same(c, "work()", x.work(), m.work());
    }

    private boolean call(Check c, int which) {
        int what = pick(5);
        switch (which) {
            case 0: return stripe(c, pick(m.stripes.size()), what);
            case 1: return unit(c, pick(m.stripes.size()), pick(4), what);
            case 2: {
                int d = datum();
                return same(c, "datum(" + d + ", " + what + ")", x.datum(d, what), m.datum(d, what));
            }
            case 3: {
                int d = disk();
                int place = pick(20);
                return same(c, "at(" + d + ", " + place + ")", x.at(d, place), m.at(d, place));
            }
            case 4: {
                int d = disk();
                return same(c, "disk(" + d + ", " + what + ")", x.disk(d, what), m.disk(d, what));
            }
            case 5: {
                int d = datum();
                return same(c, "read(" + d + ")", x.read(d), m.read(d));
            }
            case 6:
            case 7: {
                int d = datum();
                int value = pick(255);
                return same(c, "write(" + d + ", " + value + ")", x.write(d, value), m.write(d, value));
            }
            case 8: {
                int d = disk();
                if (random.nextInt(3) > 0) {
                    return same(c, "replace(" + d + ")", x.replace(d) ? 1 : 0, m.replace(d) ? 1 : 0);
                }
                return same(c, "lose(" + d + ")", x.lose(d), m.lose(d));
            }
            case 9: {
                int many = pick(random.nextBoolean() ? 3 : 40);
                return same(c, "rebuild(" + many + ")", x.rebuild(many), m.rebuild(many));
            }
            case 10: {
                int many = pick(random.nextBoolean() ? 3 : 40);
                return same(c, "home(" + many + ")", x.home(many), m.home(many));
            }
            case 11: {
                int w = pick(2);
                return same(c, "judged(" + w + ")", x.judged(w), m.judged(w));
            }
            default: return which < 23 ? designs(c, which) : losses(c, which);
        }
    }

    private boolean stripe(Check c, int s, int what) {
        return same(c, "stripe(" + s + ", " + what + ")", x.stripe(s, what), m.stripe(s, what));
    }

    private boolean unit(Check c, int s, int u, int what) {
        return same(c, "unit(" + s + ", " + u + ", " + what + ")", x.unit(s, u, what), m.unit(s, u, what));
    }

    private boolean designs(Check c, int which) {
        int d = disk();
        int e = disk();
        int what = pick(2);
        switch (which) {
            case 12: return same(c, "pairs(" + d + ", " + e + ")", x.pairs(d, e), m.pairs(d, e));
            case 13: return same(c, "even()", x.even(), m.even());
            case 14: return same(c, "worst(" + d + ")", x.worst(d), m.worst(d));
            case 15: return same(c, "spread(" + what + ")", x.spread(what), m.spread(what));
            case 16: {
                int b = pick(m.blocks.size());
                return same(c, "differs(" + b + ", " + d + ")", x.differs(b, d), m.differs(b, d));
            }
            case 17: return same(c, "family()", x.family(), m.family());
            case 18: {
                int size = pick(6);
                return same(c, "seek(" + size + ")", x.seek(size), m.seek(size));
            }
            case 19: {
                int i = datum();
                return same(c, "cost(" + i + ")", x.cost(i), m.cost(i));
            }
            case 20: {
                int i = datum();
                return same(c, "price(" + i + ")", x.price(i), m.price(i));
            }
            case 21: return same(c, "would(" + d + ", " + e + ")", x.would(d, e), m.would(d, e));
            default: {
                int readers = pick(m.speed);
                return same(c, "time(" + d + ", " + readers + ")", x.time(d, readers), m.time(d, readers));
            }
        }
    }

    private boolean losses(Check c, int which) {
        int d = disk();
        switch (which) {
            case 23: return same(c, "bears(" + d + ")", x.bears(d) ? 1 : 0, m.bears(d) ? 1 : 0);
            case 24: return same(c, "risk()", x.risk(), m.risk());
            case 25: {
                int more = pick(4);
                int what = pick(2);
                return same(c, "grow(" + more + ", " + what + ")", x.grow(more, what), m.grow(more, what));
            }
            case 26: {
                int i = pick(m.count(5));
                return same(c, "lost(" + i + ")", lostOf(i, true), lostOf(i, false));
            }
            case 27: {
                int i = datum();
                boolean dearer = random.nextInt(3) == 0;
                return same(c, "see(" + i + ", " + dearer + ")", x.see(i, dearer) ? 1 : 0, m.see(i, dearer) ? 1 : 0);
            }
            case 28: return same(c, "who()", x.who(), m.who());
            case 29: return same(c, "ask()", x.ask(), m.ask());
            case 30: {
                int seed = pick(9999);
                int many = pick(99);
                int what = pick(2);
                String call = "loads(" + seed + ", " + many + ", " + what + ")";
                return same(c, call, x.loads(seed, many, what), m.loads(seed, many, what));
            }
            case 31: {
                int mark = pick(1);
                boolean back = random.nextInt(3) > 0;
                String call = "mark(" + mark + ", " + back + ")";
                return same(c, call, x.mark(mark, back) ? 1 : 0, m.mark(mark, back) ? 1 : 0);
            }
            default: {
                int what = pick(12);
                return same(c, "count(" + what + ")", x.count(what), m.count(what));
            }
        }
    }

    private long lostOf(int i, boolean own) {
        try {
            return own ? x.lost(i) : m.lost(i);
        } catch (NoSuchElementException e) {
            return Long.MIN_VALUE;
        }
    }
}
