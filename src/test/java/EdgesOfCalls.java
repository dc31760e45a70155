/** Promises 5 to 16: what is told of an ARRAY, and the works on it, by calls that are refused, too. */
final class EdgesOfCalls {
    /** Data 0, 1 on disks 1, 2 with parity on 0 and spare on 3; data 2, 3, 4 on 0, 2, 3 with parity on 1 and spare on 4. */
    private static final String TWO = "disks 5;block once 0 1 2;block once 0 1 2 3;";
    private static final int[] ODD = {-1, -2, 99, Integer.MIN_VALUE, Integer.MAX_VALUE};

    private EdgesOfCalls() {
    }

    static void add(Edges e) {
        e.promise(5, "2: the SPARE's DISK (NONE: none)", EdgesOfCalls::stripeSpare);
        e.promise(5, "4: LOST ones, as bits", EdgesOfCalls::stripeLost);
        e.promise(5, "5: the one that is AWAY (NONE: none)", EdgesOfCalls::stripeAway);
        e.promise(5, "-2: others", EdgesOfCalls::stripeOthers);
        e.promise(6, "0: its DISK, 1: its place there", EdgesOfCalls::unitOwn);
        e.promise(6, "2: 0 HOME, 1 AWAY, 2 LOST", EdgesOfCalls::unitWhere);
        e.promise(6, "3: the byte (NONE: LOST in a STRIPE that is DEAD)", EdgesOfCalls::unitByte);
        e.promise(6, "4: which DATUM (NONE: the PARITY)", EdgesOfCalls::unitDatum);
        e.promise(6, "-2: others", EdgesOfCalls::unitOthers);
        e.promise(7, "2: the DISK on which it is now, 3: the place there (NONE: LOST)", EdgesOfCalls::datumNow);
        e.promise(7, "-2: others", EdgesOfCalls::datumOthers);
        e.promise(8, "as 8 * the STRIPE + the UNIT (7: the SPARE)", EdgesOfCalls::atPlaces);
        e.promise(8, "NONE: others, for nothing", EdgesOfCalls::atOthers);
        e.promise(9, "what 0: 1 up", EdgesOfCalls::diskUp);
        e.promise(9, "1: UNITS, 2: PARITIES, 3: SPARES, 4: LOADS", EdgesOfCalls::diskCounts);
        e.promise(9, "5: UNITS that are there now", EdgesOfCalls::diskNow);
        e.promise(9, "NONE: others", EdgesOfCalls::diskOthers);
        works(e);
    }

    private static void works(Edges e) {
        e.promise(10, "READ: the byte; NONE: others, it can't be.", EdgesOfCalls::read);
        e.promise(11, "WRITE (0 to 255): how many LOADS", EdgesOfCalls::writeValues);
        e.promise(11, "NONE: others, it can't be", EdgesOfCalls::writeOthers);
        e.promise(12, "how many UNITS are LOST by it; NONE: others, it is down", EdgesOfCalls::lose);
        e.promise(13, "REPLACE: true; false: others, it is up.", EdgesOfCalls::replace);
        e.promise(14, "REBUILD (1 to 40): how many; NONE: others.", EdgesOfCalls::rebuild);
        e.promise(15, "HOME (1 to 40): how many; NONE: others.", EdgesOfCalls::home);
        e.promise(16, "what 0: a line (NONE: none)", EdgesOfCalls::judgedLine);
        e.promise(16, "-2: others", EdgesOfCalls::judgedOthers);
    }

    private static void stripeSpare(Check c) {
        ParitySpread x = Check.told("disks 3;block once 0 1 2;block once 0 1;");
        c.due("none", x.stripe(0, 2), -1);
        c.due("the last disk", x.stripe(1, 2), 2);
        x.lose(2);
        c.due("it is the spare all the same", x.stripe(1, 2), 2);
        c.due("disk 0", Check.told("disks 3;block once 1 2;").stripe(0, 2), 0);
    }

    private static void stripeLost(Check c) {
        ParitySpread x = Check.told("disks 6;block once 0 1 2 3 4;");
        c.due("none", x.stripe(0, 4), 0);
        int due = 0;
        for (int d = 4; d >= 0; d--) {
            x.lose(d);
            due |= 1 << d;
            c.due("with " + d, x.stripe(0, 4), due);
        }
        c.due("all five", x.stripe(0, 4), 31);
    }

    private static void stripeAway(Check c) {
        ParitySpread x = Check.told(TWO);
        c.due("none", x.stripe(0, 5), -1);
        x.lose(0);
        c.due("lost, not away", x.stripe(0, 5), -1);
        x.rebuild(40);
        c.due("the first unit", x.stripe(0, 5), 0);
        x.lose(3);
        c.due("the spare's disk is lost", x.stripe(0, 5), -1);
        ParitySpread y = Check.told(TWO);
        y.lose(3);
        y.rebuild(1);
        c.due("the last unit", y.stripe(1, 5), 3);
        y.replace(3);
        y.home(1);
        c.due("home again", y.stripe(1, 5), -1);
    }

    private static void stripeOthers(Check c) {
        ParitySpread x = Check.told(TWO);
        for (int i : ODD) {
            c.due("stripe(" + i + ", 0)", x.stripe(i, 0), -2);
            c.due("stripe(0, " + i + ")", x.stripe(0, i), -2);
        }
        c.due("the last stripe", x.stripe(1, 0), 4);
        c.due("behind it", x.stripe(2, 0), -2);
        c.due("what 5", x.stripe(1, 5), -1);
        c.due("what 6", x.stripe(1, 6), -2);
        c.due("no stripes", Check.told("disks 2;").stripe(0, 0), -2);
        for (int what = 0; what <= 5; what++) {
            c.due("nothing told, what " + what, new ParitySpread().stripe(0, what), -2);
        }
    }

    private static void unitOwn(Check c) {
        ParitySpread x = Check.told(TWO);
        c.due("disk", x.unit(1, 3, 0), 3);
        c.due("place", x.unit(1, 2, 1), 1);
        x.lose(3);
        c.due("lost: its disk", x.unit(1, 3, 0), 3);
        c.due("lost: its place", x.unit(1, 3, 1), 0);
        x.lose(2);
        c.due("lost: its place", x.unit(1, 2, 1), 1);
        ParitySpread away = Check.told(TWO);
        away.lose(2);
        away.rebuild(40);
        c.due("away: its disk", away.unit(1, 2, 0), 2);
        c.due("away: its place", away.unit(1, 2, 1), 1);
    }

    private static void unitWhere(Check c) {
        ParitySpread x = Check.told(TWO);
        c.due("home", x.unit(1, 3, 2), 0);
        x.lose(3);
        c.due("lost", x.unit(1, 3, 2), 2);
        x.rebuild(1);
        c.due("away", x.unit(1, 3, 2), 1);
        x.replace(3);
        c.due("away still", x.unit(1, 3, 2), 1);
        x.home(1);
        c.due("home again", x.unit(1, 3, 2), 0);
    }

    private static void unitByte(Check c) {
        ParitySpread x = Check.told("disks 4;block once 0 1 2;");
        x.write(0, 200);
        x.write(1, 55);
        x.lose(1);
        c.due("lost, not dead", x.unit(0, 1, 3), 200);
        x.lose(0);
        c.due("a DATUM lost and dead", x.unit(0, 1, 3), -1);
        c.due("the PARITY lost and dead", x.unit(0, 0, 3), -1);
        c.due("there and dead", x.unit(0, 2, 3), 55);
        ParitySpread y = Check.told("disks 4;block once 0 1 2;");
        y.write(0, 200);
        y.lose(1);
        y.lose(2);
        c.due("the PARITY there and dead", y.unit(0, 0, 3), 200);
        ParitySpread z = Check.told("disks 4;block once 0 1 2;");
        z.lose(0);
        z.write(1, 255);
        c.due("the PARITY lost, not dead", z.unit(0, 0, 3), 255);
    }

    private static void unitDatum(Check c) {
        ParitySpread x = Check.told(TWO);
        int[][] due = {{-1, 0, 1}, {2, -1, 3, 4}};
        x.lose(1);
        for (int s = 0; s < 2; s++) {
            for (int u = 0; u < due[s].length; u++) {
                c.due("datum of " + s + ", " + u, x.unit(s, u, 4), due[s][u]);
            }
        }
    }

    private static void unitOthers(Check c) {
        ParitySpread x = Check.told(TWO);
        for (int i : ODD) {
            c.due("unit(" + i + ", 0, 0)", x.unit(i, 0, 0), -2);
            c.due("unit(0, " + i + ", 0)", x.unit(0, i, 0), -2);
            c.due("unit(0, 0, " + i + ")", x.unit(0, 0, i), -2);
        }
        c.due("the last of three", x.unit(0, 2, 0), 2);
        c.due("behind it", x.unit(0, 3, 0), -2);
        c.due("the last of four", x.unit(1, 3, 0), 3);
        c.due("behind it", x.unit(1, 4, 0), -2);
        c.due("behind the last stripe", x.unit(2, 0, 0), -2);
        c.due("what 5", x.unit(0, 0, 5), -2);
        for (int what = 0; what <= 4; what++) {
            c.due("nothing told, what " + what, new ParitySpread().unit(0, 0, what), -2);
        }
    }

    private static void datumNow(Check c) {
        ParitySpread x = Check.told(TWO);
        datum(c, x, "home", 3, 2, 1);
        x.lose(2);
        datum(c, x, "lost", 3, -1, -1);
        x.rebuild(40);
        datum(c, x, "away", 3, 4, 0);
        datum(c, x, "away in the first", 1, 3, 1);
        x.lose(4);
        datum(c, x, "lost again", 3, -1, -1);
        x.replace(2);
        x.rebuild(40);
        datum(c, x, "home again", 3, 2, 1);
    }

    private static void datum(Check c, ParitySpread x, String when, int datum, int disk, int place) {
        c.due("disk, " + when, x.datum(datum, 2), disk);
        c.due("place, " + when, x.datum(datum, 3), place);
    }

    private static void datumOthers(Check c) {
        ParitySpread x = Check.told(TWO);
        for (int i : ODD) {
            c.due("datum(" + i + ", 0)", x.datum(i, 0), -2);
            c.due("datum(0, " + i + ")", x.datum(0, i), -2);
        }
        c.due("the last one's stripe", x.datum(4, 0), 1);
        c.due("the last one's unit", x.datum(4, 1), 3);
        c.due("behind it", x.datum(5, 0), -2);
        c.due("what 4", x.datum(0, 4), -2);
        for (int what = 0; what <= 3; what++) {
            c.due("nothing told, what " + what, new ParitySpread().datum(0, what), -2);
        }
        ParitySpread lost = Check.told(TWO);
        lost.lose(3);
        c.due("the stripe of one that is lost", lost.datum(4, 0), 1);
        c.due("its unit", lost.datum(4, 1), 3);
    }

    private static void atPlaces(Check c) {
        ParitySpread x = Check.told(TWO);
        int[][] due = {{0, 8}, {1, 9}, {2, 10}, {11, 7}, {15}};
        for (int d = 0; d < 5; d++) {
            for (int p = 0; p < due[d].length; p++) {
                c.due("at(" + d + ", " + p + ")", x.at(d, p), due[d][p]);
            }
        }
        x.lose(1);
        x.rebuild(1);
        c.due("what it is for, not what is there", x.at(1, 0), 1);
        c.due("the spare's, too", x.at(3, 1), 7);
        ParitySpread most = Check.told("disks 8;" + "block cycle 0 1 2 3 4;".repeat(5));
        c.due("the last stripe's last unit", most.at(3, 24), 39 * 8 + 4);
    }

    private static void atOthers(Check c) {
        ParitySpread x = Check.told(TWO);
        for (int i : ODD) {
            c.due("at(" + i + ", 0)", x.at(i, 0), -1);
            c.due("at(0, " + i + ")", x.at(0, i), -1);
        }
        c.due("behind the units", x.at(0, 2), -1);
        c.due("behind the spare", x.at(3, 2), -1);
        c.due("behind the spare alone", x.at(4, 1), -1);
        c.due("no disk 5", x.at(5, 0), -1);
        c.due("no disks", new ParitySpread().at(0, 0), -1);
        ParitySpread full = Check.told("disks 2;block once 0 1;");
        c.due("no spare is at NONE", full.at(-1, -1), -1);
        c.due("nor behind", full.at(0, 1), -1);
    }

    private static void diskUp(Check c) {
        ParitySpread x = Check.told(TWO);
        c.due("up", x.disk(4, 0), 1);
        x.lose(4);
        c.due("down", x.disk(4, 0), 0);
        c.due("another one", x.disk(3, 0), 1);
        x.replace(4);
        c.due("up again", x.disk(4, 0), 1);
    }

    /** The parities of the stripes are on disks 0, 0 and 3, the spares on 3, 4 and 1. */
    private static void diskCounts(Check c) {
        ParitySpread x = Check.told(TWO + "block once 3 0;parity 0;");
        int[][] due = {{3, 2, 0, 4}, {2, 0, 1, 2}, {2, 0, 0, 0}, {2, 1, 1, 2}, {0, 0, 1, 0}};
        x.write(0, 1);
        x.write(5, 1);
        x.lose(0);
        for (int d = 0; d < 5; d++) {
            for (int what = 1; what <= 4; what++) {
                c.due("disk(" + d + ", " + what + ")", x.disk(d, what), due[d][what - 1]);
            }
        }
        ParitySpread none = Check.told("disks 13;");
        for (int what = 1; what <= 5; what++) {
            c.due("no stripes, the last disk, what " + what, none.disk(12, what), 0);
        }
    }

    private static void diskNow(Check c) {
        ParitySpread x = Check.told(TWO);
        c.due("at first", x.disk(3, 5), 1);
        x.lose(1);
        c.due("lost", x.disk(1, 5), 0);
        c.due("as told", x.disk(1, 1), 2);
        x.rebuild(40);
        c.due("one home, one away", x.disk(3, 5), 2);
        c.due("one away", x.disk(4, 5), 1);
        x.replace(1);
        c.due("nothing on it", x.disk(1, 5), 0);
        x.home(40);
        c.due("home again", x.disk(1, 5), 2);
        c.due("none away", x.disk(4, 5), 0);
    }

    private static void diskOthers(Check c) {
        ParitySpread x = Check.told(TWO);
        for (int i : ODD) {
            c.due("disk(" + i + ", 0)", x.disk(i, 0), -1);
            c.due("disk(0, " + i + ")", x.disk(0, i), -1);
        }
        c.due("the last one's spares", x.disk(4, 3), 1);
        c.due("behind it", x.disk(5, 3), -1);
        c.due("what 6", x.disk(0, 6), -1);
        for (int what = 0; what <= 5; what++) {
            c.due("nothing told, what " + what, new ParitySpread().disk(0, what), -1);
        }
    }

    private static void read(Check c) {
        ParitySpread x = Check.told(TWO);
        x.write(4, 255);
        c.due("the last", x.read(4), 255);
        c.due("behind it", x.read(5), -1);
        for (int i : ODD) {
            c.due("read(" + i + ")", x.read(i), -1);
        }
        c.due("loads by one that was read", x.count(8), 5);
        x.lose(3);
        x.lose(0);
        c.due("lost and dead", x.read(4), -1);
        c.due("no loads by it", x.count(8), 5);
        c.due("nothing told", new ParitySpread().read(0), -1);
    }

    private static void writeValues(Check c) {
        ParitySpread x = Check.told(TWO);
        int[] odd = {-1, 256, Integer.MIN_VALUE, Integer.MAX_VALUE};
        for (int value : odd) {
            c.due("write(0, " + value + ")", x.write(0, value), -1);
        }
        c.due("nothing is written", x.count(8), 0);
        c.due("255", x.write(0, 255), 4);
        c.due("its byte", x.read(0), 255);
        c.due("256 leaves it", x.write(0, 256), -1);
        c.due("its byte", x.read(0), 255);
        c.due("0", x.write(0, 0), 4);
        c.due("its byte", x.read(0), 0);
        c.due("the same again", x.write(0, 0), 4);
    }

    private static void writeOthers(Check c) {
        ParitySpread x = Check.told(TWO);
        for (int i : ODD) {
            c.due("write(" + i + ", 0)", x.write(i, 0), -1);
        }
        c.due("the last", x.write(4, 1), 4);
        c.due("behind it", x.write(5, 1), -1);
        x.lose(0);
        x.lose(1);
        c.due("in a dead stripe", x.write(4, 2), -1);
        c.due("it is as it was", x.read(4), 1);
        c.due("nothing told", new ParitySpread().write(0, 0), -1);
    }

    private static void lose(Check c) {
        ParitySpread x = Check.told(TWO);
        for (int i : ODD) {
            c.due("lose(" + i + ")", x.lose(i), -1);
        }
        c.due("none is lost", x.count(4), 31);
        c.due("behind the last", x.lose(5), -1);
        c.due("the last, nothing on it", x.lose(4), 0);
        c.due("it is down", x.lose(4), -1);
        c.due("the first", x.lose(0), 2);
        c.due("it is down", x.lose(0), -1);
        c.due("lost", x.count(5), 2);
        c.due("nothing told", new ParitySpread().lose(0), -1);
    }

    private static void replace(Check c) {
        ParitySpread x = Check.told(TWO);
        for (int i : ODD) {
            c.due("replace(" + i + ")", x.replace(i), false);
        }
        c.due("it is up", x.replace(4), false);
        x.lose(4);
        c.due("behind the last", x.replace(5), false);
        c.due("it is down", x.replace(4), true);
        c.due("it is up again", x.replace(4), false);
        c.due("all are up", x.count(4), 31);
        c.due("nothing told", new ParitySpread().replace(0), false);
    }

    private static void rebuild(Check c) {
        String forty = "disks 8;" + "block cycle 0 1 2 3 4;".repeat(5);
        ParitySpread x = Check.told(forty);
        x.lose(0);
        int[] odd = {-1, 0, 41, Integer.MIN_VALUE, Integer.MAX_VALUE};
        for (int many : odd) {
            c.due("rebuild(" + many + ")", x.rebuild(many), -1);
        }
        c.due("nothing is rebuilt", x.count(5), 25);
        c.due("rebuild(1)", x.rebuild(1), 1);
        c.due("rebuild(40)", x.rebuild(40), 24);
        c.due("rebuild(40) of none", x.rebuild(40), 0);
        c.due("nothing told", new ParitySpread().rebuild(1), 0);
        c.due("nothing told, 41", new ParitySpread().rebuild(41), -1);
    }

    private static void home(Check c) {
        ParitySpread x = Check.told("disks 8;" + "block cycle 0 1 2 3 4;".repeat(5));
        x.lose(0);
        x.rebuild(40);
        x.replace(0);
        int[] odd = {-1, 0, 41, Integer.MIN_VALUE, Integer.MAX_VALUE};
        for (int many : odd) {
            c.due("home(" + many + ")", x.home(many), -1);
        }
        c.due("all are away", x.count(6), 25);
        c.due("home(1)", x.home(1), 1);
        c.due("home(40)", x.home(40), 24);
        c.due("home(40) of none", x.home(40), 0);
        c.due("nothing told", new ParitySpread().home(40), 0);
        c.due("nothing told, 0", new ParitySpread().home(0), -1);
    }

    private static void judgedLine(Check c) {
        ParitySpread x = Check.told(TWO);
        c.due("no WORK", x.judged(0), -1);
        Check.work(x, "read 0;");
        c.due("all can be", x.judged(0), -1);
        Check.work(x, "replace 0;");
        c.due("the first can't", x.judged(0), 0);
        Check.work(x, "home 1;".repeat(39) + "replace 0;");
        c.due("the last can't", x.judged(0), 39);
    }

    private static void judgedOthers(Check c) {
        ParitySpread x = Check.told(TWO);
        Check.work(x, "read 0;lose 0;lose 1;");
        c.due("what 1", x.judged(1), 1);
        c.due("what 2", x.judged(2), 2);
        c.due("what 3", x.judged(3), -2);
        for (int i : ODD) {
            c.due("judged(" + i + ")", x.judged(i), -2);
            c.due("nothing told, " + i, new ParitySpread().judged(i), -2);
        }
    }
}
