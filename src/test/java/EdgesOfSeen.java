import java.math.BigInteger;

/** SEEN, WHO, ASK, DRAWS, LOADS by a SEED, and MARKS. */
final class EdgesOfSeen {
    /** Data 0, 1 on disks 1, 2 (parity on 0); 2, 3 on 2, 4 (parity on 3); 4 on 5 (parity on 4). */
    private static final String THREE = "disks 6;block once 0 1 2;block once 2 3 4;block once 4 5;";
    private static final String FANO = "disks 7;block cycle 0 1 3;";

    private EdgesOfSeen() {
    }

    static void add(Edges e) {
        e.terms("were an unknown DISK (one that is up) LOST", EdgesOfSeen::seenUp);
        e.terms("a READ of a DATUM would take more LOADS than now", EdgesOfSeen::seenMore);
        e.terms("or could not be then (now or not), or not so", EdgesOfSeen::seenCant);
        e.terms("8 at most, as all is when it is asked", EdgesOfSeen::seenEight);
        e.terms("as all is when it is asked", EdgesOfSeen::seenNow);
        e.terms("WHO: DISKS by which all SEEN is so (bits).", EdgesOfSeen::who);
        e.terms("ASK: the DATUM by which the greater number of WHO by whom that is so, or not, is the least",
            EdgesOfSeen::ask);
        e.terms("if that is less than all", EdgesOfSeen::askNone);
        e.terms("if that is less than all; of equal ones the first.", EdgesOfSeen::askFirst);
        loads(e);
        e.terms("MARKS 0 and 1 hold all but the texts (the ARRAY, the TAPE, the WORK).", EdgesOfSeen::marks);
    }

    private static void loads(Edges e) {
        e.terms("g becomes (g * 1103515245 + 12345) modulo 2147483648 (g is the SEED at first); it is g / 65536, cut, "
            + "modulo m", EdgesOfSeen::draws);
        e.terms("LOADS by a SEED of so many (1 to 99)", EdgesOfSeen::loadsMany);
        e.terms("from now on (all is as ahead then)", EdgesOfSeen::loadsLeaveAll);
        e.terms("each, if there are DATA", EdgesOfSeen::loadsWithoutData);
        e.terms("a DRAW below 8: 0 to 2: READ, 3, 4: WRITE, of a DATUM, a DRAW below DATA, a byte, a DRAW below 256",
            EdgesOfSeen::loadsOfReadAndWrite);
        e.terms("5: LOSE, 6: REPLACE, of a DISK, a DRAW below DISKS", EdgesOfSeen::loadsOfLose);
        e.terms("7: REBUILD of a DRAW below 4, and 1", EdgesOfSeen::loadsOfRebuild);
        e.terms("(each if it can be; a READ, too, has the byte drawn)", EdgesOfSeen::loadsIfItCanBe);
        e.terms("LOADS of these, of all DISKS; DEAD STRIPES at last; by how much the DISK with the most LOADS is above the "
            + "one with the fewest at last", EdgesOfSeen::loadsAnswers);
    }

    private static int whoBy(ParitySpread x, int datum, boolean dearer) {
        x.see(datum, dearer);
        return x.who();
    }

    private static void seenUp(Check c) {
        ParitySpread x = Check.told(THREE);
        c.due("all are up", x.who(), 63);
        x.lose(5);
        c.due("5 is not", x.who(), 31);
        c.due("nor if not so", whoBy(x, 0, false), 29);
        x.replace(5);
        c.due("5 is up again", x.who(), 61);
    }

    private static void seenMore(Check c) {
        c.due("its own disk", whoBy(Check.told(THREE), 0, true), 2);
        c.due("all others", whoBy(Check.told(THREE), 0, false), 61);
        c.due("of two units it takes no more", whoBy(Check.told(THREE), 4, true), 0);
        c.due("of two units, not so", whoBy(Check.told(THREE), 4, false), 63);
        ParitySpread x = Check.told(THREE);
        x.lose(1);
        x.rebuild(1);
        c.due("where it is away", whoBy(x, 0, true), 8);
    }

    private static void seenCant(Check c) {
        ParitySpread x = Check.told(THREE);
        x.lose(1);
        c.due("it is lost: by the others of its stripe it could not be", whoBy(x, 0, true), 5);
        ParitySpread y = Check.told(THREE);
        y.lose(0);
        c.due("it is there, another is lost", whoBy(y, 0, true), 2);
        ParitySpread dead = Check.told(THREE);
        dead.lose(1);
        dead.lose(2);
        c.due("it can't be now: by any", whoBy(dead, 0, true), 57);
        c.due("not so: by none", whoBy(dead, 0, false), 0);
        ParitySpread two = Check.told(THREE);
        two.lose(4);
        c.due("of two units, the other one lost", whoBy(two, 4, true), 32);
    }

    private static void seenEight(Check c) {
        ParitySpread x = Check.told(THREE);
        for (int i = 1; i <= 8; i++) {
            c.due("see " + i, x.see(i == 8 ? 1 : 0, false), true);
            c.due("seen", x.count(11), i);
        }
        c.due("the eighth counts", x.who(), 57);
        c.due("a ninth", x.see(3, false), false);
        c.due("still eight", x.count(11), 8);
        c.due("it does not count", x.who(), 57);
    }

    private static void seenNow(Check c) {
        ParitySpread x = Check.told(THREE);
        x.see(0, true);
        c.due("home", x.who(), 2);
        x.lose(1);
        c.due("lost", x.who(), 5);
        x.rebuild(1);
        c.due("away", x.who(), 8);
        x.replace(1);
        x.home(1);
        c.due("home again", x.who(), 2);
    }

    private static void who(Check c) {
        c.due("nothing seen", Check.told(THREE).who(), 63);
        c.due("nothing seen of 13", Check.told("disks 13;").who(), 8191);
        ParitySpread x = Check.told(THREE);
        x.see(0, false);
        x.see(1, false);
        c.due("both", x.who(), 57);
        x.see(0, true);
        c.due("none", x.who(), 0);
        ParitySpread down = Check.told("disks 2;");
        down.lose(0);
        down.lose(1);
        c.due("none is up", down.who(), 0);
    }

    private static void ask(Check c) {
        ParitySpread x = Check.told(THREE);
        x.lose(4);
        c.due("by 3: two are so, three are not", x.ask(), 3);
        x.see(3, false);
        c.due("of 0, 1, 5: 1 by datum 0", x.ask(), 0);
        x.see(0, false);
        c.due("of 0, 5: 5 by datum 4", x.ask(), 4);
        x.see(4, false);
        c.due("0 is left", x.who(), 1);
        c.due("nothing to ask", x.ask(), -1);
    }

    private static void askNone(Check c) {
        c.due("none is dearer by any", Check.told("disks 3;block once 0 1;").ask(), -1);
        c.due("no data", Check.told("disks 3;").ask(), -1);
        ParitySpread x = Check.told(THREE);
        x.see(0, true);
        c.due("one is left", x.ask(), -1);
        x.see(0, false);
        c.due("none is left", x.ask(), -1);
        ParitySpread dead = Check.told("disks 4;block once 0 1 2;");
        dead.lose(1);
        dead.lose(2);
        c.due("dearer by all", dead.ask(), -1);
    }

    private static void askFirst(Check c) {
        ParitySpread x = Check.told(THREE);
        c.due("the first of four", x.ask(), 0);
        x.see(0, false);
        c.due("the second", x.ask(), 1);
        c.due("the first by which any is dearer", Check.told("disks 6;block twice 0 1;block once 2 3 4;parity size-2;").ask(), 2);
    }

    /** The draws worked out in numbers without a bound, and what one thing drawn by them takes. */
    private static void draws(Check c) {
        ParitySpread x = Check.told(FANO);
        x.lose(1);
        for (int seed = 0; seed <= 9999; seed += 101) {
            BigInteger g = next(BigInteger.valueOf(seed));
            int kind = drawn(g, 8);
            g = next(g);
            int due = 0;
            if (kind <= 2) {
                due = x.cost(drawn(g, 14));
            } else if (kind <= 4) {
                due = x.price(drawn(g, 14));
            } else if (kind == 7) {
                due = 3 * Math.min(3, drawn(g, 4) + 1);
            }
            c.due("loads(" + seed + ", 1, 0), kind " + kind, x.loads(seed, 1, 0), due);
        }
    }

    private static BigInteger next(BigInteger g) {
        return g.multiply(BigInteger.valueOf(1103515245)).add(BigInteger.valueOf(12345)).mod(BigInteger.ONE.shiftLeft(31));
    }

    private static int drawn(BigInteger g, int m) {
        return g.shiftRight(16).mod(BigInteger.valueOf(m)).intValue();
    }

    /** The first of these by SEED 1 is a REPLACE that can't be, the second a READ. */
    private static void loadsMany(Check c) {
        ParitySpread x = Check.told(FANO);
        c.due("none", x.loads(1, 0, 0), -1);
        c.due("one", x.loads(1, 1, 0), 0);
        c.due("two", x.loads(1, 2, 0), 1);
        ParitySpread y = Check.told(FANO);
        new Drawn(1).perform(y, 99);
        c.due("99", x.loads(1, 99, 0), y.count(8));
        c.due("100", x.loads(1, 100, 0), -1);
    }

    private static void loadsLeaveAll(Check c) {
        ParitySpread x = used();
        ParitySpread y = used();
        for (int seed = 0; seed < 20; seed++) {
            c.due("the same again", x.loads(seed, 99, seed % 3), y.loads(seed, 99, seed % 3));
        }
        Answers.same(c, () -> {
            ParitySpread z = used();
            for (int seed = 0; seed < 20; seed++) {
                z.loads(seed, 99, seed % 3);
            }
            return z;
        }, EdgesOfSeen::used);
    }

    private static ParitySpread used() {
        ParitySpread x = Check.told(FANO);
        x.write(0, 3);
        x.write(9, 77);
        x.lose(1);
        x.read(0);
        x.rebuild(2);
        x.see(0, false);
        return x;
    }

    private static void loadsWithoutData(Check c) {
        for (int what = 0; what <= 2; what++) {
            c.due("no stripes", Check.told("disks 5;").loads(9999, 99, what), 0);
            c.due("no disks", new ParitySpread().loads(0, 1, what), 0);
        }
        int sum = 0;
        for (int seed = 0; seed < 9; seed++) {
            sum += Check.told("disks 2;block once 0 1;").loads(seed, 99, 0);
        }
        c.due("with one datum", sum > 0, true);
    }

    /** With a DISK lost a READ and a WRITE of this DATUM and of that take more or fewer LOADS. */
    private static void loadsOfReadAndWrite(Check c) {
        ParitySpread x = Check.told(FANO);
        x.lose(1);
        int[] seen = new int[5];
        for (int seed = 0; seed < 300; seed++) {
            Drawn drawn = new Drawn(seed);
            int kind = drawn.below(8);
            int datum = drawn.below(14);
            if (kind <= 4) {
                c.due("seed " + seed + ", kind " + kind, x.loads(seed, 1, 0), kind <= 2 ? x.cost(datum) : x.price(datum));
                seen[kind]++;
            }
        }
        for (int kind = 0; kind <= 4; kind++) {
            c.due("kind " + kind + " was drawn", seen[kind] > 0, true);
        }
    }

    private static void loadsOfLose(Check c) {
        int[] seen = new int[2];
        for (int seed = 0; seed < 300; seed++) {
            Drawn drawn = new Drawn(seed);
            int kind = drawn.below(8);
            int disk = drawn.below(7);
            if (kind == 5 || kind == 6) {
                ParitySpread x = Check.told(FANO);
                x.lose(2);
                c.due("seed " + seed + " takes no loads", x.loads(seed, 1, 0), 0);
                c.due("dead by kind " + kind, x.loads(seed, 1, 1), kind == 5 && disk != 2 ? 1 : 0);
                sameByHand(c, x, seed, 30);
                seen[kind - 5]++;
            }
        }
        c.due("a LOSE was drawn", seen[0] > 0, true);
        c.due("a REPLACE was drawn", seen[1] > 0, true);
    }

    private static void loadsOfRebuild(Check c) {
        int seen = 0;
        for (int seed = 0; seed < 300; seed++) {
            Drawn drawn = new Drawn(seed);
            if (drawn.below(8) == 7) {
                int many = drawn.below(4) + 1;
                ParitySpread x = Check.told("disks 7;block cycle 0 1 3;block cycle 0 1 3;");
                x.lose(1);
                c.due("seed " + seed, x.loads(seed, 1, 0), 3 * many);
                seen |= 1 << many;
            }
        }
        c.due("1, 2, 3 and 4 were drawn", seen, 30);
    }

    private static void sameByHand(Check c, ParitySpread x, int seed, int many) {
        int[] answers = {x.loads(seed, many, 0), x.loads(seed, many, 1), x.loads(seed, many, 2)};
        int before = x.count(8);
        new Drawn(seed).perform(x, many);
        c.due("loads by seed " + seed, answers[0], x.count(8) - before);
        c.due("dead by seed " + seed, answers[1], x.count(7));
        c.due("spread by seed " + seed, answers[2], Drawn.spread(x));
    }

    /** Of what is drawn much can't be where two are lost; without the byte drawn all behind a READ would be others. */
    private static void loadsIfItCanBe(Check c) {
        for (int seed = 0; seed < 100; seed++) {
            sameByHand(c, used(), seed, 99);
            ParitySpread two = Check.told("disks 2;block once 0 1;");
            two.lose(0);
            two.lose(1);
            sameByHand(c, two, seed, 2);
        }
    }

    private static void loadsAnswers(Check c) {
        ParitySpread x = Check.told(FANO);
        for (int i = 0; i < 50; i++) {
            x.read(0);
        }
        // by SEED 1 a READ alone takes a LOAD, of another disk than the first one's 50
        c.due("those ahead do not count", x.loads(1, 2, 0), 1);
        c.due("those ahead are there at last", x.loads(1, 2, 2), 50);
        c.due("nothing is dead", x.loads(1, 2, 1), 0);
        x.lose(0);
        x.lose(1);
        c.due("dead ahead, dead at last", x.loads(1, 2, 1), 1);
    }

    private static void marks(Check c) {
        ParitySpread x = used();
        Check.work(x, "read 0;");
        Check.feed(x, "abc");
        x.mark(1, false);
        x.replace(1);
        x.home(40);
        x.rebuild(40);
        x.write(0, 200);
        x.lose(5);
        x.see(1, true);
        Check.work(x, "");
        Check.work(x, "read 0;read 1;");
        Check.feed(x, "disks");
        c.due("back", x.mark(1, true), true);
        c.due("the WORK stays", x.count(10), 2);
        c.due("the TAPE stays", x.count(12), 5);
        int[] held = {4, 5, 6, 7, 8, 11};
        for (int what : held) {
            c.due("count(" + what + ") is held", x.count(what), used().count(what));
        }
        c.due("bytes are held", x.read(0), 3);
        c.due("what is SEEN is held", x.who(), used().who());
        c.due("the ARRAY stays", x.count(2), 7);
        for (int i = 0; i <= 1; i++) {
            int mark = i;
            Answers.same(c, () -> goneBack(mark), EdgesOfSeen::used);
        }
        marksOfSeen(c);
    }

    private static ParitySpread goneBack(int mark) {
        ParitySpread x = used();
        x.mark(mark, false);
        x.write(4, 1);
        x.lose(0);
        x.see(1, true);
        x.see(2, true);
        x.mark(1 - mark, false);
        x.replace(1);
        x.rebuild(40);
        x.mark(mark, true);
        return x;
    }

    /** By these one is SEEN each time, of another DATUM and so or not so. */
    private static void marksOfSeen(Check c) {
        ParitySpread x = Check.told(THREE);
        x.mark(0, false);
        x.see(0, true);
        x.mark(1, false);
        c.due("so by 0", x.who(), 2);
        x.mark(0, true);
        x.see(1, false);
        c.due("not so by 1", x.who(), 59);
        x.mark(1, true);
        c.due("so by 0 again", x.who(), 2);
        x.mark(0, true);
        x.see(2, false);
        c.due("nothing of these is left", x.who(), 59);
        x.mark(0, true);
        x.see(3, true);
        c.due("so by 3", x.who(), 16);
    }
}
