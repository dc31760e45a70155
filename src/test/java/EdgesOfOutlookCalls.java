/** Promises 24 to 37, by calls that are refused, too. */
final class EdgesOfOutlookCalls {
    /** Data 0, 1 on disks 1, 2 with parity on 0 and spare on 3; data 2, 3, 4 on 0, 2, 3 with parity on 1 and spare on 4. */
    private static final String TWO = "disks 5;block once 0 1 2;block once 0 1 2 3;";
    private static final int[] ODD = {-1, -2, 99, Integer.MIN_VALUE, Integer.MAX_VALUE};

    private EdgesOfOutlookCalls() {
    }

    static void add(Edges e) {
        e.promise(24, "COST; NONE: others, it can't be.", EdgesOfOutlookCalls::cost);
        e.promise(25, "PRICE; NONE: others, it can't be.", EdgesOfOutlookCalls::price);
        e.promise(26, "WOULD; NONE: others, the same, one is down.", EdgesOfOutlookCalls::would);
        e.promise(27, "TIME; NONE: others, it is down.", EdgesOfOutlookCalls::time);
        e.promise(28, "BEARS; false: others, it is down.", EdgesOfOutlookCalls::bears);
        e.promise(29, "RISK, how many.", EdgesOfOutlookCalls::risk);
        e.promise(30, "NONE: others, too many, no DISKS", EdgesOfOutlookCalls::grow);
        e.promise(31, "The i-th (from 0) UNIT that is LOST, by STRIPES, UNITS, as 8 * the STRIPE + the UNIT",
            EdgesOfOutlookCalls::lost);
        e.promise(31, "NoSuchElementException: there are not so many, i is less than 0", EdgesOfOutlookCalls::lostThrows);
        e.promise(32, "SEEN: true; false: others, 8 there are.", EdgesOfOutlookCalls::see);
        e.promise(33, "WHO, as bits.", EdgesOfOutlookCalls::who);
        e.promise(34, "ASK; NONE: none parts them.", EdgesOfOutlookCalls::ask);
        e.promise(35, "LOADS by a SEED (0 to 9999), what 0, 1, 2: how many; NONE: others.", EdgesOfOutlookCalls::loads);
        e.promise(36, "A MARK is laid (back: gone back to): true", EdgesOfOutlookCalls::mark);
        e.promise(36, "false: none such, nothing is on it (back)", EdgesOfOutlookCalls::noMark);
        e.promise(37, "4: which DISKS are up, as bits, 5: UNITS that are LOST, 6: that are AWAY, 7: STRIPES that are DEAD",
            EdgesOfOutlookCalls::count);
        e.promise(37, "NONE for another what.", EdgesOfOutlookCalls::countOthers);
    }

    private static void cost(Check c) {
        ParitySpread x = Check.told(TWO);
        for (int i : ODD) {
            c.due("cost(" + i + ")", x.cost(i), -1);
        }
        c.due("the last", x.cost(4), 1);
        c.due("behind it", x.cost(5), -1);
        x.lose(0);
        x.lose(3);
        c.due("lost and dead", x.cost(4), -1);
        c.due("lost, not dead", x.cost(0), 1);
        c.due("nothing told", new ParitySpread().cost(0), -1);
    }

    private static void price(Check c) {
        ParitySpread x = Check.told(TWO);
        for (int i : ODD) {
            c.due("price(" + i + ")", x.price(i), -1);
        }
        c.due("the last", x.price(4), 4);
        c.due("behind it", x.price(5), -1);
        x.lose(0);
        x.lose(3);
        c.due("lost and dead", x.price(4), -1);
        c.due("there and dead", x.price(3), -1);
        c.due("the parity lost", x.price(0), 1);
        c.due("nothing told", new ParitySpread().price(0), -1);
    }

    private static void would(Check c) {
        ParitySpread x = Check.told(TWO);
        for (int i : ODD) {
            c.due("would(" + i + ", 0)", x.would(i, 0), -1);
            c.due("would(0, " + i + ")", x.would(0, i), -1);
        }
        c.due("the same", x.would(0, 0), -1);
        c.due("the last", x.would(4, 0), 0);
        c.due("behind it", x.would(5, 0), -1);
        c.due("behind it", x.would(0, 5), -1);
        x.lose(4);
        c.due("the first is down", x.would(4, 0), -1);
        c.due("the second is down", x.would(0, 4), -1);
        c.due("nothing told", new ParitySpread().would(0, 1), -1);
    }

    private static void time(Check c) {
        ParitySpread x = Check.told(TWO + "speed 9;");
        for (int i : ODD) {
            c.due("time(" + i + ", 0)", x.time(i, 0), -1);
            c.due("time(0, " + i + ")", x.time(0, i), -1);
        }
        c.due("8 readers", x.time(0, 8), 2);
        c.due("9 readers", x.time(0, 9), -1);
        c.due("the last", x.time(4, 0), 0);
        c.due("behind it", x.time(5, 0), -1);
        x.lose(4);
        c.due("it is down", x.time(4, 0), -1);
        c.due("nothing told", new ParitySpread().time(0, 0), -1);
    }

    private static void bears(Check c) {
        ParitySpread x = Check.told(TWO);
        for (int i : ODD) {
            c.due("bears(" + i + ")", x.bears(i), false);
        }
        c.due("the last", x.bears(4), true);
        c.due("behind it", x.bears(5), false);
        x.lose(4);
        c.due("it is down", x.bears(4), false);
        c.due("another one", x.bears(0), true);
        c.due("nothing told", new ParitySpread().bears(0), false);
    }

    private static void risk(Check c) {
        c.due("nothing told", new ParitySpread().risk(), 0);
        c.due("no stripes", Check.told("disks 2;").risk(), 0);
        c.due("the first and the last", Check.told("disks 13;block once 0 12;").risk(), 1);
        c.due("all", Check.told("disks 5;block once 0 1 2 3 4;").risk(), 10);
        ParitySpread x = Check.told("disks 5;block once 0 1 2 3 4;");
        x.lose(0);
        c.due("all that are up", x.risk(), 6);
    }

    private static void grow(Check c) {
        ParitySpread x = Check.told("disks 10;block once 0 1;");
        for (int i : ODD) {
            c.due("grow(" + i + ", 0)", x.grow(i, 0), -1);
            c.due("grow(1, " + i + ")", x.grow(1, i), -1);
        }
        c.due("0 more", x.grow(0, 0), -1);
        c.due("3 more", x.grow(3, 0), 0);
        c.due("4 more", x.grow(4, 0), -1);
        c.due("what 2", x.grow(1, 2), -1);
        c.due("too many disks", Check.told("disks 11;block once 0 1;").grow(3, 1), -1);
        c.due("too many stripes", Check.told("disks 8;" + "block cycle 0 1;".repeat(5)).grow(1, 1), -1);
        for (int more = 1; more <= 3; more++) {
            c.due("no disks", new ParitySpread().grow(more, 0), -1);
            c.due("no disks told", Check.told("speed 1;").grow(more, 1), -1);
        }
    }

    private static void lost(Check c) {
        ParitySpread x = Check.told(TWO);
        x.lose(3);
        x.lose(1);
        x.lose(0);
        int[] due = {0, 1, 8, 9, 11};
        for (int i = 0; i < due.length; i++) {
            c.due("lost(" + i + ")", x.lost(i), due[i]);
        }
        ParitySpread most = Check.told("disks 8;" + "block cycle 0 1 2 3 4;".repeat(5));
        for (int d = 0; d < 8; d++) {
            most.lose(d);
        }
        c.due("the 200th", most.lost(199), 39 * 8 + 4);
        c.noSuchLost(most, 200);
    }

    private static void lostThrows(Check c) {
        c.noSuchLost(new ParitySpread(), 0);
        ParitySpread x = Check.told(TWO);
        c.noSuchLost(x, 0);
        x.lose(1);
        c.due("the last one", x.lost(1), 9);
        c.noSuchLost(x, 2);
        c.noSuchLost(x, -1);
        c.noSuchLost(x, Integer.MIN_VALUE);
        c.noSuchLost(x, Integer.MAX_VALUE);
        x.rebuild(1);
        c.due("the one that is left", x.lost(0), 9);
        c.noSuchLost(x, 1);
        x.rebuild(1);
        c.noSuchLost(x, 0);
    }

    private static void see(Check c) {
        ParitySpread x = Check.told(TWO);
        for (int i : ODD) {
            c.due("see(" + i + ", true)", x.see(i, true), false);
            c.due("see(" + i + ", false)", x.see(i, false), false);
        }
        c.due("behind the last", x.see(5, false), false);
        c.due("nothing seen", x.count(11), 0);
        c.due("the last", x.see(4, false), true);
        for (int i = 2; i <= 8; i++) {
            c.due("see " + i, x.see(0, false), true);
        }
        c.due("a ninth", x.see(0, false), false);
        c.due("eight", x.count(11), 8);
        c.due("nothing told", new ParitySpread().see(0, false), false);
    }

    private static void who(Check c) {
        c.due("nothing told", new ParitySpread().who(), 0);
        c.due("two disks", Check.told("disks 2;").who(), 3);
        c.due("13 disks", Check.told("disks 13;block once 0 1;").who(), 8191);
        ParitySpread x = Check.told("disks 13;block once 12 11 10;parity 2;");
        x.see(0, true);
        c.due("the last", x.who(), 4096);
        ParitySpread y = Check.told("disks 13;block once 0 1 2;parity 2;");
        y.see(0, true);
        c.due("the first", y.who(), 1);
    }

    private static void ask(Check c) {
        c.due("nothing told", new ParitySpread().ask(), -1);
        c.due("no data", Check.told("disks 2;").ask(), -1);
        c.due("none parts them", Check.told("disks 2;block once 0 1;").ask(), -1);
        c.due("the only datum that does", Check.told("disks 5;block twice 0 1;block once 2 3 4;parity 0;").ask(), 2);
        ParitySpread x = Check.told("disks 13;" + "block cycle 0 1 3 9 12;".repeat(3) + "block once 12 11 10 9 8;");
        c.due("the first of 160", x.ask(), 0);
    }

    private static void loads(Check c) {
        ParitySpread x = Check.told(TWO);
        int[] odd = {-1, 10000, Integer.MIN_VALUE, Integer.MAX_VALUE};
        for (int i : odd) {
            c.due("seed " + i, x.loads(i, 1, 0), -1);
        }
        for (int i : ODD) {
            c.due("what " + i, x.loads(0, 1, i), -1);
        }
        int[] many = {-1, 0, 100, Integer.MIN_VALUE, Integer.MAX_VALUE};
        for (int i : many) {
            c.due("many " + i, x.loads(0, i, 0), -1);
        }
        c.due("what 3", x.loads(0, 1, 3), -1);
        c.due("no data, what 3", new ParitySpread().loads(0, 1, 3), -1);
        c.due("no data, seed 10000", new ParitySpread().loads(10000, 1, 0), -1);
        int[] seeds = {0, 9999};
        for (int seed : seeds) {
            ParitySpread y = Check.told(TWO);
            new Drawn(seed).perform(y, 99);
            c.due("seed " + seed + ", what 0", x.loads(seed, 99, 0), y.count(8));
            c.due("seed " + seed + ", what 1", x.loads(seed, 99, 1), y.count(7));
            c.due("seed " + seed + ", what 2", x.loads(seed, 99, 2), Drawn.spread(y));
        }
    }

    private static void mark(Check c) {
        ParitySpread x = Check.told(TWO);
        c.due("lay 0", x.mark(0, false), true);
        x.lose(0);
        c.due("lay 1", x.mark(1, false), true);
        x.lose(1);
        c.due("back to 0", x.mark(0, true), true);
        c.due("all are up", x.count(4), 31);
        c.due("back to 1", x.mark(1, true), true);
        c.due("0 is down", x.count(4), 30);
        c.due("lay 0 again", x.mark(0, false), true);
        x.replace(0);
        c.due("back to 0", x.mark(0, true), true);
        c.due("0 is down", x.count(4), 30);
        c.due("back to it again", x.mark(0, true), true);
        c.due("a mark on nothing", new ParitySpread().mark(1, false), true);
    }

    private static void noMark(Check c) {
        ParitySpread x = Check.told(TWO);
        int[] odd = {-1, 2, Integer.MIN_VALUE, Integer.MAX_VALUE};
        for (int i : odd) {
            c.due("mark(" + i + ", false)", x.mark(i, false), false);
            c.due("mark(" + i + ", true)", x.mark(i, true), false);
        }
        c.due("nothing on 0", x.mark(0, true), false);
        c.due("nothing on 1", x.mark(1, true), false);
        x.mark(1, false);
        x.lose(0);
        c.due("nothing on 0 still", x.mark(0, true), false);
        c.due("all is as it is", x.count(4), 30);
        c.due("something on 1", x.mark(1, true), true);
    }

    private static void count(Check c) {
        ParitySpread x = Check.told("disks 13;block once 0 1 2;block once 0 1 2 3;block once 12 11;speed 9;");
        c.counts(x, 13, 3, 3, 6, 8191, 0, 0, 0, 0, 9, 0, 0, 0);
        x.lose(12);
        c.counts(x, 13, 3, 3, 6, 4095, 1, 0, 0, 0, 9, 0, 0, 0);
        x.rebuild(1);
        c.counts(x, 13, 3, 3, 6, 4095, 0, 1, 0, 2, 9, 0, 0, 0);
        x.lose(1);
        x.lose(2);
        c.counts(x, 13, 3, 3, 6, 4095 - 6, 4, 1, 2, 2, 9, 0, 0, 0);
        x.see(0, false);
        Check.work(x, "home 1;");
        Check.feed(x, "a b\n");
        c.counts(x, 13, 3, 3, 6, 4095 - 6, 4, 1, 2, 2, 9, 1, 1, 4);
    }

    private static void countOthers(Check c) {
        ParitySpread x = Check.told(TWO);
        for (int i : ODD) {
            c.due("count(" + i + ")", x.count(i), -1);
            c.due("nothing told, " + i, new ParitySpread().count(i), -1);
        }
        c.due("count(12)", x.count(12), 0);
        c.due("count(13)", x.count(13), -1);
    }
}
