/** Promises 1 and 2: a new object, feed. */
public final class TapeTest {
    public static void main(String[] args) {
        Check c = new Check("tape");
        nothingAtFirst(c);
        signsTaken(c);
        limit(c);
        order(c);
        c.end();
    }

    private static void nothingAtFirst(Check c) {
        ParitySpread x = new ParitySpread();
        for (int what = 0; what <= 12; what++) {
            c.due("new count(" + what + ")", x.count(what), what == 9 ? 4 : 0);
        }
        c.due("new stripe", x.stripe(0, 0), -2);
        c.due("new unit", x.unit(0, 0, 0), -2);
        c.due("new datum", x.datum(0, 0), -2);
        c.due("new at", x.at(0, 0), -1);
        c.due("new disk", x.disk(0, 0), -1);
        c.due("new read", x.read(0), -1);
        c.due("new write", x.write(0, 0), -1);
        c.due("new lose", x.lose(0), -1);
        c.due("new replace", x.replace(0), false);
        c.due("new rebuild", x.rebuild(1), 0);
        c.due("new home", x.home(1), 0);
        c.due("new judged 0", x.judged(0), -1);
        c.due("new judged 1", x.judged(1), 0);
        c.due("new judged 2", x.judged(2), 0);
        c.due("new pairs", x.pairs(0, 1), -1);
        c.due("new even", x.even(), -1);
        c.due("new worst", x.worst(0), -1);
        c.due("new spread", x.spread(0), -1);
        c.due("new differs", x.differs(0, 1), -1);
        c.due("new family", x.family(), -1);
        c.due("new seek", x.seek(2), -1);
        c.due("new cost", x.cost(0), -1);
        c.due("new price", x.price(0), -1);
        c.due("new would", x.would(0, 1), -1);
        c.due("new time", x.time(0, 0), -1);
        c.due("new bears", x.bears(0), false);
        c.due("new risk", x.risk(), 0);
        c.due("new grow", x.grow(1, 0), -1);
        c.noSuchLost(x, 0);
        c.due("new see", x.see(0, true), false);
        c.due("new who", x.who(), 0);
        c.due("new ask", x.ask(), -1);
        for (int what = 0; what <= 2; what++) {
            c.due("new loads " + what, x.loads(0, 1, what), 0);
        }
        c.due("new mark back", x.mark(0, true), false);
        c.due("new mark", x.mark(0, false), true);
        c.due("then mark back", x.mark(0, true), true);
    }

    private static void signsTaken(Check c) {
        for (int sign = 0; sign < 256; sign++) {
            ParitySpread x = new ParitySpread();
            boolean taken = sign == 10 || (sign >= 32 && sign <= 126);
            c.due("feed sign " + sign, x.feed(0, sign, 0), taken ? 1 : 0);
            c.due("feed sign " + sign + " highest", x.feed((long) sign << 56, 0, 0), taken ? 2 : 0);
            c.due("count(12)", x.count(12), taken ? 2 : 0);
        }
        ParitySpread x = new ParitySpread();
        c.due("feed of all", x.feed(0x6161616161616161L, 0x6161616161616161L, 0x6161616161616161L), 24);
        c.due("feed of none", x.feed(-1L, 0, Long.MIN_VALUE), 24);
        c.due("feed of one", x.feed(-1L, 0x0161FF00007F801FL, 0), 25);
    }

    private static void limit(Check c) {
        ParitySpread x = new ParitySpread();
        for (int i = 1; i <= 41; i++) {
            c.due("feed up to " + i, x.feed(0x2020202020202020L, 0x2020202020202020L, 0x2020202020202020L), 24 * i);
        }
        c.due("feed to the end", x.feed(0x2020202020202020L, 0x2020202020202020L, 0x2020202020202020L), 1000);
        c.due("feed beyond", x.feed(0x3B00000000000000L, 0, 0), 1000);
        c.due("what is beyond is left out", x.array(), 0);
        c.due("the tape is taken", x.count(12), 0);
        c.due("feed anew", x.feed(0x3B00000000000000L, 0, 0), 1);
    }

    /** The highest byte first, a before b before c, and behind what there is. */
    private static void order(Check c) {
        ParitySpread x = new ParitySpread();
        x.feed(0x646973L, 0x6B00730000000000L, 0x20L);
        c.due("behind", x.feed(0x373B000000000000L, 0, 0), 8);
        c.due("disks 7;", x.array(), 0);
        c.due("count(0)", x.count(0), 7);
    }
}
