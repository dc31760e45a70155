/** COST to LEAST: what things take now, and what would be. */
final class EdgesOfOutlooks {
    private static final String FANO = "disks 7;block cycle 0 1 3;speed 2;";
    /** Data 0, 1 on disks 1, 2 with parity on 0 and spare on 3; data 2, 3, 4 on 0, 2, 3 with parity on 1 and spare on 4. */
    private static final String TWO = "disks 5;block once 0 1 2;block once 0 1 2 3;";
    /** The datum on disk 1, the parity on disk 0, no spare. */
    private static final String PAIR = "disks 2;block once 0 1;";

    private EdgesOfOutlooks() {
    }

    static void add(Edges e) {
        e.terms("COST of a DATUM: how many LOADS a READ of it takes now.", EdgesOfOutlooks::cost);
        e.terms("PRICE: a WRITE.", EdgesOfOutlooks::price);
        e.terms("WOULD of two DISKS, both up", EdgesOfOutlooks::wouldUp);
        e.terms("how many UNITS that are on the second one (HOME, AWAY) would be read to rebuild all that are on the first "
            + "one", EdgesOfOutlooks::would);
        e.terms("of STRIPES that have nothing LOST.", EdgesOfOutlooks::wouldNothingLost);
        time(e);
        e.terms("BEARS of a DISK that is up: whether no STRIPE would be DEAD that is not, were it LOST.",
            EdgesOfOutlooks::bears);
        e.terms("RISK: pairs of DISKS, both up, by whose loss any would be.", EdgesOfOutlooks::risk);
        e.terms("GROW of 1 to 3 DISKS more, all else as told", EdgesOfOutlooks::growMore);
        e.terms("(13 at most, STRIPES 40 at most)", EdgesOfOutlooks::growTooMany);
        e.terms("how many DATA that are in both have another PLACE", EdgesOfOutlooks::growMoved);
        e.terms("LEAST: how few would have to: all UNITS that there are now, times the new ones, by all DISKS then, cut.",
            EdgesOfOutlooks::growLeast);
    }

    private static void time(Edges e) {
        e.terms("TIME of a DISK that is up and so many readers (0 to less than the speed)", EdgesOfOutlooks::timeReaders);
        e.terms("till all UNITS that are on it, of STRIPES with nothing LOST, are rebuilt into SPARES (0: there are none)",
            EdgesOfOutlooks::timeNone);
        e.terms("each other DISK that is up (one that is down has no part in it) can take as many LOADS as the speed is, "
            + "less the readers", EdgesOfOutlooks::timeLoads);
        e.terms("STRIPES in their order, again by each tick", EdgesOfOutlooks::timeOrder);
        e.terms("one is rebuilt if each DISK that is read for it, and the SPARE, can take one more",
            EdgesOfOutlooks::timeSpare);
        e.terms("Those without a SPARE that is up (or with one AWAY) are left out.", EdgesOfOutlooks::timeLeftOut);
    }

    private static void cost(Check c) {
        ParitySpread x = Check.told(TWO);
        c.due("home", x.cost(4), 1);
        x.lose(3);
        c.due("lost of four", x.cost(4), 3);
        c.due("another one's loss", x.cost(3), 1);
        x.rebuild(1);
        c.due("away", x.cost(4), 1);
        x.lose(0);
        x.lose(2);
        c.due("lost and dead", x.cost(3), -1);
        c.due("there and dead", x.cost(4), 1);
        c.due("nothing is read", x.count(8), 4);
        ParitySpread pair = Check.told(PAIR);
        pair.lose(1);
        c.due("lost of two", pair.cost(0), 1);
    }

    private static void price(Check c) {
        ParitySpread x = Check.told(TWO);
        c.due("home", x.price(4), 4);
        x.lose(3);
        c.due("lost of four", x.price(4), 3);
        c.due("another datum is lost", x.price(3), 4);
        x.rebuild(1);
        c.due("away", x.price(4), 4);
        x.lose(1);
        c.due("away, the parity lost", x.price(4), 1);
        c.due("home, the parity lost", x.price(3), 1);
        x.lose(0);
        c.due("there and dead", x.price(4), -1);
        c.due("lost and dead", x.price(2), -1);
        c.due("nothing is written", x.count(8), 4);
        ParitySpread pair = Check.told(PAIR);
        pair.lose(1);
        c.due("lost of two", pair.price(0), 1);
    }

    private static void wouldUp(Check c) {
        ParitySpread x = Check.told(TWO);
        c.due("both up", x.would(0, 3), 1);
        x.lose(4);
        c.due("the first is down", x.would(4, 0), -1);
        c.due("the second is down", x.would(0, 4), -1);
        c.due("another one is down", x.would(0, 3), 1);
        x.replace(4);
        c.due("up again, with nothing on it", x.would(0, 4), 0);
        c.due("nothing on the first", x.would(4, 0), 0);
    }

    private static void would(Check c) {
        ParitySpread x = Check.told(TWO);
        c.due("two", x.would(0, 2), 2);
        c.due("one", x.would(0, 3), 1);
        c.due("none", x.would(0, 4), 0);
        x.lose(1);
        x.rebuild(40);
        c.due("what is away is read", x.would(0, 4), 1);
        c.due("home and away", x.would(0, 3), 2);
        c.due("what is away is rebuilt", x.would(4, 0), 1);
        c.due("one away, one home", x.would(4, 3), 1);
        c.due("without a spare", Check.told(PAIR).would(0, 1), 1);
        c.due("of twice", Check.told("disks 3;block twice 0 1;").would(1, 0), 2);
    }

    private static void wouldNothingLost(Check c) {
        ParitySpread x = Check.told(TWO);
        x.lose(3);
        c.due("the second stripe has a loss", x.would(0, 2), 1);
        x.rebuild(1);
        c.due("it has none", x.would(0, 2), 2);
        x.lose(1);
        c.due("both have", x.would(0, 2), 0);
    }

    private static void timeReaders(Check c) {
        String four = "disks 4;block twice 0 1;block twice 0 1;";
        int[] ticks = {4, 2, 2, 1, 1, 1, 1, 1, 1};
        int[] speeds = {1, 2, 4, 9};
        for (int speed : speeds) {
            ParitySpread x = Check.told(four + "speed " + speed + ";");
            for (int readers = 0; readers < speed; readers++) {
                c.due("speed " + speed + ", readers " + readers, x.time(0, readers), ticks[speed - readers - 1]);
                c.due("of disk 1, readers " + readers, x.time(1, readers), ticks[speed - readers - 1]);
            }
            c.due("speed " + speed + ", as many readers", x.time(0, speed), -1);
            c.due("readers below 0", x.time(0, -1), -1);
        }
        ParitySpread x = Check.told(four);
        c.due("no speed told, 3 readers", x.time(0, 3), 4);
        c.due("no speed told, 4 readers", x.time(0, 4), -1);
        x.lose(0);
        c.due("it is down", x.time(0, 0), -1);
        x.replace(0);
        c.due("it is up", x.time(0, 0), 0);
    }

    private static void timeNone(Check c) {
        c.due("no unit on it", Check.told("disks 3;block once 0 1;").time(2, 0), 0);
        c.due("no stripes", Check.told("disks 3;").time(2, 0), 0);
        ParitySpread x = Check.told("disks 4;block once 0 1;block once 0 2;speed 1;");
        c.due("two stripes", x.time(0, 0), 2);
        x.lose(1);
        c.due("one with a loss", x.time(0, 0), 0);
        x.replace(1);
        c.due("its spare is up again, not so the other's loss", x.time(0, 0), 1);
        x.rebuild(1);
        c.due("rebuilt", x.time(0, 0), 2);
    }

    /** The spares of the three stripes are on disks 2, 3, 2. */
    private static void timeLoads(Check c) {
        ParitySpread x = Check.told("disks 4;block once 0 1;block once 0 1;block once 0 1;speed 3;");
        c.due("3 a tick", x.time(0, 0), 1);
        c.due("2 a tick", x.time(0, 1), 2);
        c.due("1 a tick", x.time(0, 2), 3);
        x.lose(2);
        c.due("one is down: no part in it", x.time(0, 2), 1);
        String forty = "disks 8;" + "block cycle 0 1 2 3 4;".repeat(5) + "speed 1;";
        ParitySpread most = Check.told(forty);
        int ticks = most.time(0, 0);
        c.due("25 stripes of five: no two in one tick", ticks, 25);
    }

    /** Read and spare DISKS of the four: 1 2, 3 1, 5 3, 2 4; then of other four: 1 2, 4 1, 5 3, 3 4. */
    private static void timeOrder(Check c) {
        String first = "disks 6;block once 0 1;block once 0 3;block once 0 5;block once 0 2;speed 1;";
        c.due("the first and third, the second and fourth", Check.told(first).time(0, 0), 2);
        String second = "disks 6;block once 0 1;block once 0 4;block once 0 5;block once 0 3;speed 1;";
        c.due("the first and third, the second, the fourth", Check.told(second).time(0, 0), 3);
        String third = "disks 6;block once 5 4;block once 5 2;block once 5 0;block once 5 3;speed 1;";
        // read and spare DISKS: 4 0, 2 1, 0 2, 3 4
        c.due("of disk 5, the first and second, the third and fourth", Check.told(third).time(5, 0), 2);
        c.due("all in one tick", Check.told(second.replace("speed 1", "speed 2")).time(0, 0), 1);
    }

    private static void timeSpare(Check c) {
        ParitySpread x = Check.told("disks 6;block once 0 1;block once 0 3;speed 1;");
        c.due("the second's spare is read for the first", x.time(0, 0), 2);
        c.due("the other way", Check.told("disks 6;block once 0 2;block once 0 1;speed 1;").time(0, 0), 2);
        ParitySpread three = Check.told("disks 3;block once 0 1;block once 0 1;speed 1;");
        c.due("both by the same spare", three.time(0, 0), 2);
        ParitySpread zero = Check.told("disks 4;block once 3 0;block once 3 0;speed 1;");
        c.due("disk 0 is read for both", zero.time(3, 0), 2);
        ParitySpread spareZero = Check.told("disks 3;block once 1 2;block once 2 1;speed 1;");
        c.due("disk 0 is the spare of both", spareZero.time(2, 0), 2);
        c.due("it can take two", Check.told("disks 3;block once 0 1;block once 0 1;speed 2;").time(0, 0), 1);
    }

    private static void timeLeftOut(Check c) {
        c.due("no spare", Check.told("disks 2;block twice 0 1;speed 1;").time(0, 0), 0);
        ParitySpread x = Check.told("disks 4;block once 0 1;block once 0 1;block once 0 1;speed 1;");
        c.due("three", x.time(0, 0), 3);
        x.lose(3);
        c.due("the second's spare is down", x.time(0, 0), 2);
        x.replace(3);
        x.lose(1);
        x.rebuild(1);
        x.replace(1);
        x.rebuild(40);
        c.due("the first has one away", x.time(0, 0), 2);
        c.due("the one away is on it", x.time(2, 0), 0);
        x.home(1);
        c.due("none is away", x.time(0, 0), 3);
    }

    private static void bears(Check c) {
        ParitySpread x = Check.told("disks 5;block once 0 1 2;block once 2 3;");
        for (int d = 0; d < 5; d++) {
            c.due("nothing lost, " + d, x.bears(d), true);
        }
        x.lose(0);
        boolean[] due = {false, false, false, true, true};
        for (int d = 0; d < 5; d++) {
            c.due("0 is lost, " + d, x.bears(d), due[d]);
        }
        x.lose(1);
        c.due("the first is dead already", x.bears(2), true);
        c.due("it is down", x.bears(1), false);
        x.replace(1);
        c.due("up, with nothing on it", x.bears(1), true);
        ParitySpread away = Check.told("disks 5;block once 0 1 2;");
        away.lose(0);
        away.rebuild(1);
        c.due("one away on it", away.bears(3), true);
        away.lose(1);
        c.due("one away on it, another lost", away.bears(3), false);
    }

    private static void risk(Check c) {
        c.due("no stripes", Check.told("disks 13;").risk(), 0);
        ParitySpread pair = Check.told(PAIR);
        c.due("two disks", pair.risk(), 1);
        pair.lose(0);
        c.due("one is up alone", pair.risk(), 0);
        ParitySpread x = Check.told("disks 5;block once 0 1 2;");
        c.due("three pairs", x.risk(), 3);
        x.lose(0);
        c.due("any pair with 1 or 2", x.risk(), 5);
        x.rebuild(1);
        c.due("pairs of 1, 2 and the spare", x.risk(), 3);
        x.lose(1);
        x.lose(2);
        c.due("dead already", x.risk(), 0);
        c.due("all pairs of 13", Check.told("disks 13;block cycle 0 1 3 9;").risk(), 78);
    }

    private static void growMore(Check c) {
        ParitySpread x = Check.told("disks 3;block cycle 0 1;block mirror 0 1;");
        int[] odd = {-1, 0, 4, Integer.MIN_VALUE, Integer.MAX_VALUE};
        for (int i : odd) {
            c.due("grow(" + i + ", 0)", x.grow(i, 0), -1);
            c.due("grow(" + i + ", 1)", x.grow(i, 1), -1);
        }
        int[] least = {10 / 4, 20 / 5, 30 / 6};
        for (int more = 1; more <= 3; more++) {
            c.due("least by " + more, x.grow(more, 1), least[more - 1]);
        }
        x.lose(0);
        x.rebuild(40);
        c.due("as told, not as it is now", x.grow(1, 0), Check.told("disks 3;block cycle 0 1;block mirror 0 1;").grow(1, 0));
        c.due("nothing has grown", x.count(0), 3);
        c.due("no stripe more", x.count(2), 5);
    }

    private static void growTooMany(Check c) {
        c.due("10 and 3", Check.told("disks 10;block once 0 1;").grow(3, 0), 0);
        c.due("11 and 3", Check.told("disks 11;block once 0 1;").grow(3, 0), -1);
        c.due("12 and 1", Check.told("disks 12;block once 0 1;").grow(1, 1), 0);
        c.due("13 and 1", Check.told("disks 13;block once 0 1;").grow(1, 1), -1);
        String nine = "disks 9;" + "block cycle 0 1;".repeat(4);
        c.due("40 stripes", Check.told(nine).grow(1, 1), 72 / 10);
        c.due("44 stripes", Check.told(nine).grow(2, 1), -1);
        c.due("44 stripes", Check.told(nine).grow(2, 0), -1);
        ParitySpread x = Check.told(nine + "block once 0 1;");
        c.due("41 stripes", x.grow(1, 0), -1);
        c.due("all is as ahead", x.count(2), 37);
        c.due("its last datum", x.datum(36, 0), 36);
    }

    /** By one more DISK the datum 1 comes to another DISK, the datum 2 to another place of its own. */
    private static void growMoved(Check c) {
        c.due("two of three", Check.told("disks 2;block cycle 0 1;block once 1 0;parity 0;").grow(1, 0), 2);
        c.due("none", Check.told("disks 2;block once 0 1;block twice 1 0;").grow(3, 0), 0);
        c.due("no data", Check.told("disks 2;").grow(1, 0), 0);
        c.due("the mirror's second", Check.told("disks 3;block mirror 0 1;").grow(1, 0), 1);
    }

    private static void growLeast(Check c) {
        int[] due = {21 / 8, 42 / 9, 63 / 10};
        ParitySpread x = Check.told("disks 7;block cycle 0 1 3;");
        for (int more = 1; more <= 3; more++) {
            c.due("by " + more, x.grow(more, 1), due[more - 1]);
        }
        c.due("no units", Check.told("disks 7;").grow(3, 1), 0);
        c.due("2 by 3", Check.told("disks 2;block once 0 1;").grow(1, 1), 0);
        c.due("4 by 4", Check.told("disks 3;block twice 0 1;").grow(1, 1), 1);
        c.due("just less than 4", Check.told("disks 3;block cycle 0 1 2;block mirror 0 1 2;").grow(1, 1), 3);
        x.lose(0);
        c.due("lost ones are units, too", x.grow(1, 1), 2);
    }
}
