/** READ, WRITE, LOSE, REPLACE, REBUILD, HOME and JUDGED. */
final class EdgesOfDisks {
    /** Data 0, 1 on disks 1, 2 with parity on 0 and spare on 3; data 2, 3, 4 on 0, 2, 3 with parity on 1 and spare on 4. */
    private static final String TWO = "disks 5;block once 0 1 2;block once 0 1 2 3;";
    /** Data 0, 1 on disks 1, 2 with parity on 0 and spare on 3. */
    private static final String ONE = "disks 4;block once 0 1 2;";
    /** The datum on disk 1, the parity on disk 0, no spare. */
    private static final String PAIR = "disks 2;block once 0 1;";

    private EdgesOfDisks() {
    }

    static void add(Edges e) {
        e.terms("is one LOAD of it (they stay when it is LOST, REPLACED)", EdgesOfDisks::loadsStay);
        e.terms("READ a DATUM: of one that is HOME or AWAY: one reading", EdgesOfDisks::readThere);
        e.terms("of one that is LOST in a STRIPE that is not DEAD: all others of it are read", EdgesOfDisks::readLost);
        e.terms("WRITE a DATUM, in a STRIPE that is not DEAD", EdgesOfDisks::writeDead);
        e.terms("if it and the PARITY are there: both are read, both are written", EdgesOfDisks::writeThere);
        e.terms("if the PARITY is LOST: it is written", EdgesOfDisks::writeWithoutParity);
        e.terms("if it is LOST: all other DATA of the STRIPE are read, the PARITY is written (it has that byte then, it is "
            + "LOST still)", EdgesOfDisks::writeLost);
        e.terms("LOSE a DISK that is up: it is down, all UNITS that are there (HOME, AWAY) are LOST", EdgesOfDisks::lose);
        e.terms("REPLACE one that is down: it is up, with nothing on it", EdgesOfDisks::replace);
        rebuildAndHome(e);
        judged(e);
    }

    private static void rebuildAndHome(Edges e) {
        e.terms("REBUILD of so many: by STRIPES in their order, of those with just one UNIT LOST", EdgesOfDisks::justOne);
        e.terms("if its own DISK is up it is HOME", EdgesOfDisks::rebuiltHome);
        e.terms("else, if there is a SPARE whose DISK is up, AWAY", EdgesOfDisks::rebuiltAway);
        e.terms("(no other one of it is AWAY then)", EdgesOfDisks::spareTaken);
        e.terms("all others are read, it is written", EdgesOfDisks::loadsOfRebuild);
        e.terms("as many as asked at most (STRIPES left as they are do not count)", EdgesOfDisks::asManyAsAsked);
        e.terms("HOME of so many: by STRIPES, each UNIT that is AWAY and whose own DISK is up is HOME", EdgesOfDisks::home);
        e.terms("it is read, and written; as many at most", EdgesOfDisks::homeAtMost);
    }

    private static void judged(Edges e) {
        e.terms("JUDGED: the WORK from the ARRAY as told", EdgesOfDisks::asTold);
        e.terms("the first line (from 0) that can't be", EdgesOfDisks::firstLine);
        e.terms("read of what can't be told", EdgesOfDisks::readCant);
        e.terms("write in a STRIPE that is DEAD", EdgesOfDisks::writeCant);
        e.terms("lose of one that is down", EdgesOfDisks::loseCant);
        e.terms("replace of one that is up", EdgesOfDisks::replaceCant);
        e.terms("rebuild, home always can", EdgesOfDisks::alwaysCan);
        e.terms("how many LOADS there are at last, of all DISKS", EdgesOfDisks::loadsAtLast);
        e.terms("how many STRIPES are DEAD at last", EdgesOfDisks::deadAtLast);
    }

    private static void loadsStay(Check c) {
        ParitySpread x = Check.told(TWO);
        x.write(0, 5);
        c.loads(x, 2, 2, 0, 0, 0);
        x.lose(1);
        c.loads(x, 2, 2, 0, 0, 0);
        c.due("of all", x.count(8), 4);
        x.replace(1);
        c.loads(x, 2, 2, 0, 0, 0);
        c.due("of all", x.count(8), 4);
    }

    private static void readThere(Check c) {
        ParitySpread x = Check.told(TWO);
        x.read(0);
        c.loads(x, 0, 1, 0, 0, 0);
        x.lose(1);
        x.rebuild(1);
        c.loads(x, 1, 1, 1, 1, 0);
        x.read(0);
        c.loads(x, 1, 1, 1, 2, 0);
        x.lose(0);
        x.lose(2);
        c.due("dead", x.stripe(0, 4), 5);
        c.due("it is there", x.read(0), 0);
        c.loads(x, 1, 1, 1, 3, 0);
    }

    private static void readLost(Check c) {
        ParitySpread x = Check.told(TWO);
        x.write(4, 200);
        x.lose(3);
        c.due("its byte", x.read(4), 200);
        c.loads(x, 1, 3, 1, 2, 0);
        x.lose(0);
        c.due("not in a dead stripe", x.read(4), -1);
        c.loads(x, 1, 3, 1, 2, 0);
        ParitySpread pair = Check.told(PAIR);
        pair.write(0, 7);
        pair.lose(1);
        c.due("of two", pair.read(0), 7);
        c.loads(pair, 3, 2);
    }

    private static void writeDead(Check c) {
        ParitySpread x = Check.told(TWO);
        x.write(0, 9);
        x.lose(0);
        x.lose(2);
        c.due("of what is lost", x.write(1, 7), -1);
        c.due("of what is there", x.write(0, 7), -1);
        c.due("nothing is written", x.read(0), 9);
        c.loads(x, 2, 3, 0, 0, 0);
        ParitySpread y = Check.told(ONE);
        y.lose(1);
        c.due("with one lost", y.write(1, 7), 4);
    }

    private static void writeThere(Check c) {
        ParitySpread x = Check.told(TWO);
        c.due("both home", x.write(0, 1), 4);
        c.loads(x, 2, 2, 0, 0, 0);
        x.lose(1);
        x.rebuild(40);
        c.loads(x, 4, 2, 2, 2, 1);
        c.due("it is away", x.write(0, 2), 4);
        c.loads(x, 6, 2, 2, 4, 1);
        c.due("the parity is away", x.write(4, 2), 4);
        c.loads(x, 6, 2, 2, 6, 3);
        ParitySpread y = Check.told(TWO);
        y.lose(1);
        c.due("another one is lost", y.write(1, 2), 4);
        c.loads(y, 2, 0, 2, 0, 0);
    }

    private static void writeWithoutParity(Check c) {
        ParitySpread x = Check.told(TWO);
        x.lose(1);
        c.due("it is written", x.write(2, 8), 1);
        c.loads(x, 1, 0, 0, 0, 0);
        c.due("its byte", x.read(2), 8);
        c.due("the parity's, were it there", x.unit(1, 1, 3), 8);
        c.due("the parity is lost still", x.unit(1, 1, 2), 2);
        x.rebuild(40);
        c.due("the parity's", x.unit(1, 1, 3), 8);
    }

    private static void writeLost(Check c) {
        ParitySpread x = Check.told(TWO);
        x.lose(3);
        c.due("two others, and the parity", x.write(4, 77), 3);
        c.loads(x, 1, 1, 1, 0, 0);
        c.due("it has that byte", x.unit(1, 3, 3), 77);
        c.due("it is lost still", x.unit(1, 3, 2), 2);
        c.due("the parity", x.unit(1, 1, 3), 77);
        x.rebuild(1);
        c.due("rebuilt", x.read(4), 77);
        ParitySpread pair = Check.told(PAIR);
        pair.lose(1);
        c.due("of two: no other, and the parity", pair.write(0, 5), 1);
        c.loads(pair, 1, 0);
    }

    private static void lose(Check c) {
        ParitySpread x = Check.told(TWO);
        c.due("units", x.lose(1), 2);
        c.due("down", x.disk(1, 0), 0);
        c.due("one that is down", x.lose(1), -1);
        x.rebuild(40);
        c.due("one home, one away", x.lose(3), 2);
        c.due("the one that was away", x.unit(0, 1, 2), 2);
        c.due("the one that was home", x.unit(1, 3, 2), 2);
        c.due("one away alone", x.lose(4), 1);
        ParitySpread y = Check.told("disks 3;block once 0 1;");
        c.due("nothing there", y.lose(2), 0);
        c.due("it is down all the same", y.count(4), 3);
        y.lose(0);
        y.lose(1);
        c.due("none is up", y.count(4), 0);
    }

    private static void replace(Check c) {
        ParitySpread x = Check.told(TWO);
        c.due("one that is up", x.replace(1), false);
        x.lose(1);
        c.due("one that is down", x.replace(1), true);
        c.due("up", x.disk(1, 0), 1);
        c.due("nothing on it", x.disk(1, 5), 0);
        c.due("its units are lost still", x.count(5), 2);
        c.due("again", x.replace(1), false);
        c.due("lost with nothing on it", x.lose(1), 0);
    }

    private static void justOne(Check c) {
        ParitySpread x = Check.told(TWO);
        c.due("none lost", x.rebuild(40), 0);
        x.lose(3);
        c.due("one lost in the second", x.rebuild(1), 1);
        ParitySpread y = Check.told(TWO);
        y.lose(0);
        y.lose(1);
        c.due("two lost in each", y.rebuild(40), 0);
        ParitySpread z = Check.told(TWO);
        z.lose(1);
        z.rebuild(1);
        c.due("the first is first", z.stripe(0, 4), 0);
        c.due("the second not yet", z.stripe(1, 4), 2);
        z.lose(2);
        c.due("one lost in the first, its spare taken; two in the second", z.rebuild(40), 0);
    }

    private static void rebuiltHome(Check c) {
        ParitySpread x = Check.told(TWO);
        x.lose(1);
        x.replace(1);
        c.due("both", x.rebuild(40), 2);
        c.due("home", x.unit(0, 1, 2), 0);
        c.due("none is away", x.count(6), 0);
        ParitySpread pair = Check.told(PAIR);
        pair.lose(0);
        pair.replace(0);
        c.due("without a spare", pair.rebuild(1), 1);
        c.due("home", pair.unit(0, 0, 2), 0);
    }

    private static void rebuiltAway(Check c) {
        ParitySpread x = Check.told(ONE);
        x.lose(1);
        x.lose(3);
        c.due("the spare is down", x.rebuild(1), 0);
        x.replace(3);
        c.due("the spare is up", x.rebuild(1), 1);
        c.due("away", x.unit(0, 1, 2), 1);
        ParitySpread pair = Check.told(PAIR);
        pair.lose(1);
        c.due("there is no spare", pair.rebuild(1), 0);
        c.due("lost still", pair.unit(0, 1, 2), 2);
    }

    private static void spareTaken(Check c) {
        ParitySpread x = Check.told("disks 5;block once 0 1 2;");
        x.lose(0);
        x.rebuild(1);
        x.lose(1);
        c.due("one is away", x.rebuild(1), 0);
        c.due("lost still", x.stripe(0, 4), 2);
        x.replace(0);
        c.due("that one goes home", x.home(1), 1);
        c.due("the spare is free", x.rebuild(1), 1);
        c.due("away", x.stripe(0, 5), 1);
        x.lose(2);
        x.replace(2);
        c.due("home, with another one away", x.rebuild(1), 1);
    }

    private static void loadsOfRebuild(Check c) {
        ParitySpread x = Check.told(TWO);
        x.lose(1);
        x.rebuild(1);
        c.loads(x, 1, 0, 1, 1, 0);
        x.rebuild(1);
        c.loads(x, 2, 0, 2, 2, 1);
        ParitySpread y = Check.told(ONE);
        y.lose(2);
        y.replace(2);
        y.rebuild(1);
        c.loads(y, 1, 1, 1, 0);
        ParitySpread pair = Check.told(PAIR);
        pair.lose(1);
        pair.replace(1);
        pair.rebuild(1);
        c.loads(pair, 1, 1);
    }

    private static void asManyAsAsked(Check c) {
        ParitySpread x = Check.told("disks 3;block once 0 1 2;block once 0 1;block once 0 2;");
        x.lose(0);
        c.due("the first has no spare", x.rebuild(1), 1);
        c.due("left as it is", x.stripe(0, 4), 1);
        c.due("the second", x.stripe(1, 4), 0);
        c.due("the third not yet", x.stripe(2, 4), 1);
        c.due("the third", x.rebuild(2), 1);
        c.due("none more", x.rebuild(40), 0);
        String forty = "disks 8;" + "block cycle 0 1 2 3 4;".repeat(5);
        ParitySpread y = Check.told(forty);
        y.lose(0);
        c.due("24 of 25", y.rebuild(24), 24);
        c.due("the last", y.rebuild(24), 1);
    }

    private static void home(Check c) {
        ParitySpread x = Check.told("disks 6;block once 0 1;block once 2 3;");
        c.due("none away", x.home(40), 0);
        x.lose(1);
        x.rebuild(1);
        x.lose(3);
        x.rebuild(1);
        c.due("both away", x.count(6), 2);
        c.due("both own disks are down", x.home(40), 0);
        x.replace(3);
        c.due("the second's is up", x.home(1), 1);
        c.due("the second is home", x.unit(1, 1, 2), 0);
        c.due("the first is away", x.unit(0, 1, 2), 1);
        x.lose(3);
        x.replace(3);
        c.due("what is lost is not brought home", x.home(1), 0);
    }

    private static void homeAtMost(Check c) {
        ParitySpread x = Check.told(TWO);
        x.lose(1);
        x.rebuild(40);
        x.replace(1);
        c.loads(x, 2, 0, 2, 2, 1);
        c.due("one", x.home(1), 1);
        c.due("the first", x.count(6), 1);
        c.due("the second is away", x.stripe(1, 5), 1);
        c.loads(x, 2, 1, 2, 3, 1);
        c.due("as many as there are", x.home(40), 1);
        c.loads(x, 2, 2, 2, 3, 2);
        c.due("none", x.home(40), 0);
    }

    private static void judge(Check c, String array, String work, int line, int loads, int dead) {
        ParitySpread x = Check.told(array);
        c.due("work \"" + work + "\"", Check.work(x, work), 0);
        c.due("line of \"" + work + "\"", x.judged(0), line);
        c.due("loads of \"" + work + "\"", x.judged(1), loads);
        c.due("dead of \"" + work + "\"", x.judged(2), dead);
    }

    private static void asTold(Check c) {
        ParitySpread x = Check.told(ONE);
        Check.work(x, "lose 0;read 0;");
        x.write(0, 3);
        x.lose(0);
        x.lose(1);
        c.due("line", x.judged(0), -1);
        c.due("loads", x.judged(1), 1);
        c.due("dead", x.judged(2), 0);
        c.due("now", x.count(7), 1);
        c.due("nothing is done", x.count(8), 4);
        c.due("nor lost", x.count(4), 12);
    }

    private static void firstLine(Check c) {
        judge(c, ONE, "", -1, 0, 0);
        judge(c, ONE, "replace 0;", 0, 0, 0);
        judge(c, ONE, "read 0;read 1;lose 3;lose 3;lose 3;", 3, 2, 0);
        judge(c, ONE, "read 0;replace 0;read 1;", 1, 2, 0);
        judge(c, ONE, "home 1;".repeat(39) + "replace 2;", 39, 0, 0);
    }

    private static void readCant(Check c) {
        judge(c, ONE, "lose 1;read 0;", -1, 2, 0);
        judge(c, ONE, "lose 1;lose 2;read 0;", 2, 0, 1);
        judge(c, ONE, "lose 0;lose 2;read 0;", -1, 1, 1);
    }

    private static void writeCant(Check c) {
        judge(c, ONE, "lose 2;write 0 1;", -1, 4, 0);
        judge(c, ONE, "lose 0;lose 2;write 0 1;", 2, 0, 1);
        judge(c, ONE, "lose 1;lose 2;write 0 1;", 2, 0, 1);
    }

    private static void loseCant(Check c) {
        judge(c, ONE, "lose 3;", -1, 0, 0);
        judge(c, ONE, "lose 3;lose 3;", 1, 0, 0);
        judge(c, ONE, "lose 3;replace 3;lose 3;", -1, 0, 0);
    }

    private static void replaceCant(Check c) {
        judge(c, ONE, "replace 3;", 0, 0, 0);
        judge(c, ONE, "lose 3;replace 3;", -1, 0, 0);
        judge(c, ONE, "lose 3;replace 3;replace 3;", 2, 0, 0);
    }

    private static void alwaysCan(Check c) {
        judge(c, ONE, "rebuild 1;home 1;rebuild 40;home 40;", -1, 0, 0);
        judge(c, ONE, "lose 1;lose 2;rebuild 1;home 1;", -1, 0, 1);
        judge(c, "", "rebuild 1;home 40;", -1, 0, 0);
    }

    private static void loadsAtLast(Check c) {
        judge(c, ONE, "read 0;write 1 9;lose 1;rebuild 1;replace 1;home 1;", -1, 1 + 4 + 3 + 2, 0);
        judge(c, ONE, "read 0;read 1;lose 1;lose 2;", -1, 2, 1);
        judge(c, PAIR, "write 0 1;lose 0;write 0 2;", -1, 5, 0);
    }

    private static void deadAtLast(Check c) {
        judge(c, TWO, "lose 3;lose 0;", -1, 0, 1);
        judge(c, TWO, "lose 2;lose 0;", -1, 0, 2);
        judge(c, TWO, "lose 2;rebuild 40;lose 0;", -1, 3 + 4, 0);
        judge(c, TWO, "lose 2;lose 0;replace 2;replace 0;rebuild 40;", -1, 0, 2);
    }
}
