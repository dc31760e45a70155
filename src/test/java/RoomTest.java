import java.lang.management.ManagementFactory;

/** The room that a run takes: an object is small, and no call but loads makes anything. */
public final class RoomTest {
    private static final com.sun.management.ThreadMXBean BEAN =
        (com.sun.management.ThreadMXBean) ManagementFactory.getThreadMXBean();
    private static final long ID = Thread.currentThread().getId();

    private static int kept;

    public static void main(String[] args) {
        Check c = new Check("room");
        run(new ParitySpread(), 1);
        long start = BEAN.getThreadAllocatedBytes(ID);
        ParitySpread x = new ParitySpread();
        long made = BEAN.getThreadAllocatedBytes(ID) - start;
        System.out.println("an object takes " + made + " bytes");
        c.due("an object takes less than 40,000 bytes", made < 40000, true);
        start = BEAN.getThreadAllocatedBytes(ID);
        run(x, 20);
        long used = BEAN.getThreadAllocatedBytes(ID) - start;
        System.out.println("20 rounds of all calls take " + used + " bytes");
        c.due("20 rounds of all calls take less than 4,000 bytes", used < 4000, true);
        c.due("something was done", kept != 0, true);
        c.end();
    }

    private static void run(ParitySpread x, int rounds) {
        for (int i = 0; i < rounds; i++) {
            // disks 7;block cycle 0 1 3;
            x.feed(0x6469736B7320373BL, 0x626C6F636B206379L, 0x636C652030203120L);
            x.feed(0x333B000000000000L, 0, 0);
            kept += x.array();
            // read 3;
            x.feed(0x7265616420333B00L, 0, 0);
            kept += x.work();
            kept += x.stripe(1, 4) + x.unit(1, 1, 3) + x.datum(3, 2) + x.at(1, 1) + x.disk(1, 5) + x.read(2);
            kept += x.write(3, 7) + x.lose(1) + x.rebuild(2) + (x.replace(1) ? 1 : 0) + x.home(1) + x.judged(1);
            kept += x.pairs(0, 1) + x.even() + x.worst(1) + x.spread(1) + x.differs(0, 1) + x.family() + x.seek(3);
            kept += x.cost(1) + x.price(1) + x.would(0, 2) + x.time(0, 1) + (x.bears(0) ? 1 : 0) + x.risk();
            kept += x.grow(1, 0) + (x.see(1, true) ? 1 : 0) + x.who() + x.ask() + x.loads(i, 99, 0);
            kept += (x.mark(0, false) ? 1 : 0) + (x.mark(0, true) ? 1 : 0) + x.count(8);
        }
    }
}
