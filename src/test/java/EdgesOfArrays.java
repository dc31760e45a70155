/** The language of an ARRAY, its E and its FAULTS; promise 3. */
final class EdgesOfArrays {
    private static final String D6 = "disks 6;";
    private static final String CYCLES = "disks 13;block cycle 0 1;block cycle 0 1;block cycle 0 1;";

    private EdgesOfArrays() {
    }

    static void add(Edges e) {
        e.terms("ARRAY: any number of disks N ; block KIND N N .. ; parity E ; speed N ;", EdgesOfArrays::anyNumber);
        e.terms("disks 2 to 13 (0)", EdgesOfArrays::disks);
        e.terms("numbered from 0. block", EdgesOfArrays::numberedFromZero);
        e.terms("block: 6 at most, numbered as told", EdgesOfArrays::sixBlocks);
        e.terms("KIND: once, cycle, mirror, twice", EdgesOfArrays::kinds);
        e.terms("2 to 5 DISKS told, none twice", EdgesOfArrays::disksOfBlock);
        e.terms("speed 1 to 9 (4)", EdgesOfArrays::speed);
        e.terms("disks, parity, speed: once each", EdgesOfArrays::onceEach);
        e.terms("E: TEST { and TEST or or TEST }, from the left", EdgesOfArrays::fromTheLeft);
        e.terms("TEST: SUM, or SUM < SUM, or SUM = SUM", EdgesOfArrays::oneTest);
        e.terms("SUM: PRODUCT { + or - PRODUCT }; PRODUCT: PART { * PART }", EdgesOfArrays::sums);
        e.terms("PART: a NUMBER, a fact, not PART, ( E )", EdgesOfArrays::parts);
        e.terms("no PART lies within 5 of not and ( )", EdgesOfArrays::within);
        e.terms("Facts: stripe (its number), size (how many UNITS it has), first (the DISK of its first one), which (the "
            + "number of the block it came of)", EdgesOfArrays::facts);
        e.terms("Of not, and, or, < and = comes 1 or 0", EdgesOfArrays::oneOrZero);
        e.terms("what is not 0 is so", EdgesOfArrays::notZero);
        e.terms("ints wrap", EdgesOfArrays::wrap);
        e.terms("Without parity: stripe.", EdgesOfArrays::withoutParity);
        faults(e);
        begins(e);
        e.promise(3, "0, or its FAULT (all stays then)", EdgesOfArrays::allStays);
    }

    private static void faults(Edges e) {
        e.terms("the place (from 0) of a token, the end being one at the text's length", EdgesOfArrays::placeOfFault);
        e.terms("of the first token from the left that is wrong the least", EdgesOfArrays::firstAndLeast);
        e.terms("1 it is none, or can't stand there", EdgesOfArrays::cantStand);
        e.terms("3 disks, parity, speed a second time", EdgesOfArrays::secondTime);
        e.terms("a DISK of a block a second time", EdgesOfArrays::diskSecondTime);
        e.terms("4 a NUMBER that is not as told (a DISK, a DATUM that is none)", EdgesOfArrays::notAsTold);
        e.terms("5 one too many: the word block of a seventh", EdgesOfArrays::seventhBlock);
        e.terms("a sixth DISK of a block", EdgesOfArrays::sixthDisk);
        e.terms("the ; behind a block by which there are more than 40 STRIPES", EdgesOfArrays::fortyOneStripes);
        e.terms("not, or a PART, within 5 others", EdgesOfArrays::partTooDeep);
    }

    private static void begins(Edges e) {
        e.terms("Without a FAULT an ARRAY is the ARRAY from then on", EdgesOfArrays::fromThenOn);
        e.terms("all DISKS up", c -> c.due("up", again().count(4), 15));
        e.terms("all DATA 0", EdgesOfArrays::allZero);
        e.terms("all UNITS at their own PLACES", EdgesOfArrays::ownPlaces);
        e.terms("no LOAD", c -> c.loads(again(), 0, 0, 0, 0));
        e.terms("no WORK", EdgesOfArrays::noWork);
        e.terms("nothing SEEN", EdgesOfArrays::nothingSeen);
        e.terms("no MARK is there", EdgesOfArrays::noMark);
    }

    private static void anyNumber(Check c) {
        c.right("");
        c.right("speed 1;");
        c.right("parity 1;");
        c.right("disks 2;");
        c.right("speed 1;parity 2;disks 2;block once 1 0;");
        c.fault(";", 0, 1);
        c.fault("disks 2;;", 8, 1);
        ParitySpread x = Check.told("");
        c.counts(x, 0, 0, 0, 0, 0, 0, 0, 0, 0, 4, 0, 0, 0);
    }

    private static void disks(Check c) {
        c.fault("disks 0;", 6, 4);
        c.fault("disks 1;", 6, 4);
        c.due("2", Check.told("disks 2;").count(0), 2);
        c.due("13", Check.told("disks 13;").count(0), 13);
        c.due("13 are up", Check.told("disks 13;").count(4), 8191);
        c.fault("disks 14;", 6, 4);
        c.fault("disks 9999;", 6, 4);
        c.due("not told", Check.told("speed 2;").count(0), 0);
    }

    private static void numberedFromZero(Check c) {
        c.right("disks 2;block once 0 1;");
        c.fault("disks 2;block once 1 2;", 21, 4);
        c.right("disks 13;block once 12 0;");
        c.fault("disks 13;block once 13 0;", 20, 4);
        c.due("disk 0", Check.told("disks 2;").disk(0, 0), 1);
        c.due("disk 1", Check.told("disks 2;").disk(1, 0), 1);
        c.due("no disk 2", Check.told("disks 2;").disk(2, 0), -1);
    }

    private static void sixBlocks(Check c) {
        String six = "disks 2;" + "block once 0 1;".repeat(6);
        ParitySpread x = Check.told(six);
        c.due("blocks", x.count(1), 6);
        for (int i = 0; i < 6; i++) {
            c.due("block of stripe " + i, x.stripe(i, 3), i);
        }
        c.fault(six + "block once 0 1;", 98, 5);
    }

    private static void kinds(Check c) {
        String[] kinds = {"once", "cycle", "mirror", "twice"};
        int[] stripes = {1, 3, 2, 2};
        for (int i = 0; i < 4; i++) {
            c.due(kinds[i], Check.told("disks 3;block " + kinds[i] + " 0 1;").count(2), stripes[i]);
        }
        c.fault("disks 3;block thrice 0 1;", 14, 1);
        c.fault("disks 3;block onc 0 1;", 14, 1);
        c.fault("disks 3;block cycles 0 1;", 14, 1);
        c.fault("disks 3;block 0 1;", 14, 1);
    }

    private static void disksOfBlock(Check c) {
        c.fault(D6 + "block once;", 18, 1);
        c.fault(D6 + "block once 0;", 20, 1);
        c.right(D6 + "block once 0 1;");
        c.right(D6 + "block once 0 1 2 3 4;");
        c.fault(D6 + "block once 0 1 2 3 4 5;", 29, 5);
        c.fault(D6 + "block once 0 0;", 21, 3);
        c.fault(D6 + "block once 4 3 2 1 4;", 27, 3);
        c.right(D6 + "block once 0 1;block once 0 1;");
    }

    private static void speed(Check c) {
        c.fault("speed 0;", 6, 4);
        c.due("1", Check.told("speed 1;").count(9), 1);
        c.due("9", Check.told("speed 9;").count(9), 9);
        c.fault("speed 10;", 6, 4);
        c.due("not told", Check.told("disks 2;").count(9), 4);
    }

    private static void onceEach(Check c) {
        c.right("disks 2;parity 1;speed 1;");
        c.fault("disks 2;disks 2;", 8, 3);
        c.fault("parity 1;parity 1;", 9, 3);
        c.fault("speed 1;speed 1;", 8, 3);
        c.right("disks 2;block once 0 1;block once 0 1;");
    }

    /** The PARITY of the one STRIPE, of five UNITS, by this E. */
    private static int law(String e) {
        return Check.told("disks 5;block once 4 3 2 1 0;parity " + e + ";").stripe(0, 1);
    }

    private static void fromTheLeft(Check c) {
        c.due("1 or 0 and 0", law("1 or 0 and 0"), 0);
        c.due("0 and 0 or 1", law("0 and 0 or 1"), 1);
        c.due("1 or (0 and 0)", law("1 or (0 and 0)"), 1);
        c.due("one TEST alone", law("3"), 3);
        c.fault("parity 1 and;", 12, 1);
        c.fault("parity and 1;", 7, 1);
        c.fault("parity 1 or and 1;", 12, 1);
    }

    private static void oneTest(Check c) {
        c.due("1<2", law("1<2"), 1);
        c.due("2<2", law("2<2"), 0);
        c.due("2=2", law("2=2"), 1);
        c.due("1=2", law("1=2"), 0);
        c.fault("parity 1<2<3;", 10, 1);
        c.fault("parity 1<2=3;", 10, 1);
        c.fault("parity 1=2<3;", 10, 1);
        c.fault("parity 1=2=3;", 10, 1);
        c.due("(1<2)<3", law("(1<2)<3"), 1);
        c.due("one by one", law("1<2 and 2<1 or 3=3"), 1);
    }

    private static void sums(Check c) {
        c.due("7-2-1", law("7-2-1"), 4);
        c.due("1+2*3", law("1+2*3"), 2);
        c.due("2*3-4", law("2*3-4"), 2);
        c.due("9-(4-1)", law("9-(4-1)"), 1);
        c.fault("parity -1;", 7, 1);
        c.fault("parity +1;", 7, 1);
        c.fault("parity *1;", 7, 1);
        c.fault("parity 1*;", 9, 1);
        c.fault("parity 1-;", 9, 1);
        c.fault("parity 1+-1;", 9, 1);
    }

    private static void parts(Check c) {
        c.due("not binds tighter than =", law("not 0=5"), 0);
        c.due("not binds tighter than *", law("not 0*3"), 3);
        c.due("not of ( )", law("not(0=5)+1"), 2);
        c.fault("parity ;", 7, 1);
        c.fault("parity ();", 8, 1);
        c.fault("parity (1;", 9, 1);
        c.fault("parity 1);", 8, 1);
        c.fault("parity not;", 10, 1);
        c.fault("parity disks;", 7, 1);
        c.fault("parity once;", 7, 1);
        c.fault("parity stripes;", 7, 1);
    }

    private static void within(Check c) {
        c.right("parity ((((1))));");
        c.fault("parity (((((1)))));", 12, 5);
        c.right("parity not not not not 1;");
        c.fault("parity not not not not not 1;", 27, 5);
        c.right("parity not(not(1));");
        c.fault("parity not(not(not 1));", 19, 5);
        c.right("parity ((((1))))+((((1))))*not not not not 1;");
        c.right("parity ((((1))+1)+((1)));");
        c.due("four round a NUMBER", law("((((3))))"), 3);
        // each of the E within one another waits with four of its values for what is within it
        String deep = "0 or 1<1+1*(".repeat(4);
        c.due("0 within four", law(deep + "0 or 1<1+1*0" + "))))"), 0);
        c.due("1 within four", law(deep + "0 or 1<1+1*1" + "))))"), 1);
        c.due("one by another", law("9-(9-(9-(9-(4)*1)*1)*1)*1"), 4);
    }

    private static void facts(Check c) {
        c.due("stripe", law("stripe"), 0);
        c.due("size", law("size-1"), 4);
        c.due("first", law("first"), 4);
        c.due("which", law("which"), 0);
        ParitySpread x = Check.told("disks 5;parity first;block twice 0 1;block cycle 3 4 0;");
        int[] first = {0, 0, 3, 4, 0, 1, 2};
        for (int s = 0; s < 7; s++) {
            c.due("first of stripe " + s, x.stripe(s, 1), first[s] % (s < 2 ? 2 : 3));
        }
        ParitySpread y = Check.told("disks 5;parity which*2+stripe;block twice 0 1 2 3;block once 3 4 0;");
        c.due("the first block's second stripe", y.stripe(1, 1), 1);
        c.due("the second block's stripe", y.stripe(2, 1), 1);
    }

    private static void oneOrZero(Check c) {
        c.due("not 0", law("not 0"), 1);
        c.due("not 3", law("not 3"), 0);
        c.due("2 and 4", law("2 and 4"), 1);
        c.due("2 or 0", law("2 or 0"), 1);
        c.due("0 or 3", law("0 or 3"), 1);
        c.due("0 or 0", law("0 or 0"), 0);
        c.due("3 and 0", law("3 and 0"), 0);
        c.due("0 and 3", law("0 and 3"), 0);
        c.due("2<3", law("(2<3)+(3<2)+(2<2)"), 1);
        c.due("3=3", law("(3=3)+(3=2)"), 1);
    }

    private static void notZero(Check c) {
        c.due("below 0", law("(0-1) and (0-9999)"), 1);
        c.due("not of below 0", law("not(0-1)"), 0);
        c.due("the least int", law("not(4096*4096*128)"), 0);
        c.due("what wraps to 0", law("not(4096*4096*256)"), 1);
        c.due("0", law("0 or (1-1)"), 0);
    }

    /** The greatest int, 2,147,483,647, is 2 modulo 5, and so is the least. */
    private static void wrap(Check c) {
        String least = "4096*4096*128";
        c.due("the least int", law(least), 2);
        c.due("by *", law(least + "<0"), 1);
        c.due("the greatest int", law(least + "-1"), 2);
        c.due("by -", law("0<" + least + "-1"), 1);
        c.due("by +", law(least + "-1+1<0"), 1);
        c.due("by - of what is below 0", law("0<1-1-(" + least + "-1)-2"), 1);
        c.due("2 above 4,294,967,296", law("4096*4096*256+2"), 2);
        c.due("9999 three times", law("9999*9999*9999"), Math.floorMod(9999 * 9999 * 9999, 5));
    }

    private static void withoutParity(Check c) {
        ParitySpread x = Check.told("disks 4;block cycle 0 1 2;block twice 0 1;");
        int[] parity = {0, 1, 2, 0, 0, 1};
        for (int s = 0; s < 6; s++) {
            c.due("parity of " + s, x.stripe(s, 1), parity[s]);
        }
    }

    private static void placeOfFault(Check c) {
        c.fault("x", 0, 1);
        c.fault(" \nx", 2, 1);
        c.fault("disks", 5, 1);
        c.fault("disks 3", 7, 1);
        c.fault("disks 3 \n ", 10, 1);
        c.fault(" ".repeat(999) + "x", 999, 1);
        c.fault("disks 3" + " ".repeat(993), 1000, 1);
        c.fault("disks 3;block once 0 1", 22, 1);
        c.fault("parity 1", 8, 1);
    }

    private static void firstAndLeast(Check c) {
        c.fault("disks 1;disks 2;", 6, 4);
        c.fault("disks 2;disks 99;", 8, 3);
        c.fault(D6 + "block once 0 1 2 3 4 4;", 29, 3);
        c.fault(D6 + "block once 0 1 2 3 4 6;", 29, 4);
        c.fault(D6 + "block once 0 1 2 3 4 12345;", 29, 1);
        c.fault(CYCLES + "block cycle 0;", CYCLES.length() + 13, 1);
        c.fault("parity ((((()", 12, 1);
        c.fault("parity (((((", 12, 1);
        c.fault("speed 0 speed", 6, 4);
    }

    private static void cantStand(Check c) {
        c.fault("once", 0, 1);
        c.fault("7;", 0, 1);
        c.fault("read 0;", 0, 1);
        c.fault("disks;", 5, 1);
        c.fault("disks speed;", 6, 1);
        c.fault("disks 3 4;", 8, 1);
        c.fault("disks 3;block once 0 speed", 21, 1);
        c.fault("disks 3;block once 0 1 (", 23, 1);
        c.fault("parity 1 1;", 9, 1);
        c.fault("parity 1 stripe;", 9, 1);
        c.fault("parity 1 not 1;", 9, 1);
        c.fault("speed 3 disks", 8, 1);
    }

    private static void secondTime(Check c) {
        c.fault("disks 2;speed 1; disks", 17, 3);
        c.fault("parity 0;disks 2;parity", 17, 3);
        c.fault("speed 1;disks 2;speed", 16, 3);
        c.fault("parity 0;parity", 9, 3);
        c.fault("disks 3;block once 0 1;disks 4;", 23, 3);
    }

    private static void diskSecondTime(Check c) {
        c.fault("disks 3;block once 0 0;", 21, 3);
        c.fault("disks 3;block once 2 1 2;", 23, 3);
        c.fault("disks 13;block once 12 1 12;", 25, 3);
        c.fault("disks 3;block once 0 1;block once 1 0 1;", 38, 3);
        c.right("disks 3;block once 0 1;block once 0 1;");
    }

    private static void notAsTold(Check c) {
        c.fault("block once 0 1;", 11, 4);
        c.fault("disks 2;block once 0 2;", 21, 4);
        c.fault("disks 2;block once 9999 1;", 19, 4);
        c.fault("disks 1;", 6, 4);
        c.fault("disks 14;", 6, 4);
        c.fault("speed 0;", 6, 4);
        c.fault("speed 10;", 6, 4);
        c.workFault("disks 2;block once 0 1;", "read 1;", 5, 4);
        c.workFault("disks 2;block once 0 1;", "lose 2;", 5, 4);
    }

    private static void seventhBlock(Check c) {
        String six = "disks 2;" + "block once 0 1;".repeat(6);
        c.right(six);
        c.right(six + "speed 2;");
        c.fault(six + "block", 98, 5);
        c.fault(six + "speed 2; block twice", 107, 5);
        c.fault(six + "blocks", 98, 1);
    }

    private static void sixthDisk(Check c) {
        c.right("disks 7;block cycle 0 1 2 3 4;");
        c.fault("disks 7;block cycle 0 1 2 3 4 5;", 30, 5);
        c.fault("disks 7;block cycle 0 1 2 3 4 5", 30, 5);
        c.fault("disks 7;block once 6 5 4 3 2 1 0;", 29, 5);
    }

    private static void fortyOneStripes(Check c) {
        int at = CYCLES.length();
        c.due("39", Check.told(CYCLES).count(2), 39);
        c.due("40", Check.told(CYCLES + "block once 0 1;").count(2), 40);
        c.fault(CYCLES + "block twice 0 1;", at + 15, 5);
        c.fault(CYCLES + "block mirror 0 1 ;", at + 17, 5);
        c.fault(CYCLES + "block cycle 0 1;", at + 15, 5);
        c.fault(CYCLES + "block once 0 1;block once 0 1;", at + 29, 5);
        c.fault(CYCLES + "block twice 0 1", at + 15, 1);
        String forty = "disks 8;" + "block cycle 0 1;".repeat(5);
        c.due("40 by cycles", Check.told(forty).count(2), 40);
        c.fault(forty + "block once 0 1;", forty.length() + 14, 5);
    }

    private static void partTooDeep(Check c) {
        c.fault("parity (((((stripe", 12, 5);
        c.fault("parity (((((7", 12, 5);
        c.fault("parity (((((not", 12, 5);
        c.fault("parity ((((((", 12, 5);
        c.fault("parity not not not not not not", 27, 5);
        c.fault("parity not not not not not size", 27, 5);
        c.fault("parity ((((not 1", 15, 5);
        c.fault("parity not not not not (1", 24, 5);
        c.fault("parity ((((1+(2", 14, 5);
        c.fault("parity (((((and", 12, 1);
    }

    private static ParitySpread used() {
        ParitySpread x = Check.told("disks 4;block cycle 0 1 2;speed 7;parity 2;");
        Check.work(x, "read 0;lose 1;");
        x.write(0, 9);
        x.write(7, 8);
        x.see(0, true);
        x.mark(0, false);
        x.lose(1);
        x.rebuild(1);
        x.mark(1, false);
        return x;
    }

    /** An object that has been used, with an ARRAY of the same STRIPES told anew. */
    private static ParitySpread again() {
        ParitySpread x = used();
        Check.array(x, "disks 4;block cycle 0 1 2;");
        return x;
    }

    /** As long as can be: the rows of an ARRAY are full by it. */
    private static final String RICH = "disks 13;speed 9;parity 4;" + "block cycle 0 1 3 9 12;".repeat(3)
        + "block once 12 11 10 9 8;";

    private static ParitySpread after(String... texts) {
        ParitySpread x = new ParitySpread();
        for (String text : texts) {
            Check.array(x, text);
            Check.work(x, "lose 0;read 0;home 3;");
            x.write(0, 200);
            x.write(5, 100);
            x.see(0, true);
            x.lose(1);
            x.rebuild(2);
            x.lose(0);
            x.mark(0, false);
        }
        return x;
    }

    private static void fromThenOn(Check c) {
        String[] small = {"disks 3;block once 2 1;", "disks 2;block twice 0 1;", "disks 13;block mirror 0 1 2;parity 1;",
            "disks 4;block cycle 0 2;block once 3 2 1 0;speed 2;", "disks 5;", ""};
        for (String text : small) {
            Answers.same(c, () -> again(text, RICH), () -> Check.told(text));
            Answers.same(c, () -> again(text, text, RICH), () -> Check.told(text));
            Answers.same(c, () -> again(text, RICH, RICH), () -> Check.told(text));
            Answers.same(c, () -> again(text, RICH, "disks 1;"), () -> Check.told(text));
        }
        Answers.same(c, () -> again(RICH, small[3]), () -> Check.told(RICH));
        replacesAll(c);
    }

    private static ParitySpread again(String text, String... ahead) {
        ParitySpread x = after(ahead);
        Check.array(x, text);
        return x;
    }

    private static void replacesAll(Check c) {
        ParitySpread x = used();
        c.due("array", Check.array(x, "disks 3;block once 2 1;"), 0);
        c.counts(x, 3, 1, 1, 1, 7, 0, 0, 0, 0, 4, 0, 0, 0);
        c.due("its stripe", x.unit(0, 0, 0), 2);
        c.due("parity as if none was told before", x.stripe(0, 1), 0);
        c.due("empty array", Check.array(x, ""), 0);
        c.counts(x, 0, 0, 0, 0, 0, 0, 0, 0, 0, 4, 0, 0, 0);
    }

    private static void allZero(Check c) {
        ParitySpread x = again();
        for (int s = 0; s < 4; s++) {
            for (int u = 0; u < 3; u++) {
                c.due("byte of " + s + ", " + u, x.unit(s, u, 3), 0);
            }
        }
    }

    private static void ownPlaces(Check c) {
        ParitySpread x = again();
        for (int s = 0; s < 4; s++) {
            for (int u = 0; u < 3; u++) {
                c.due("where " + s + ", " + u + " is", x.unit(s, u, 2), 0);
            }
        }
        c.due("lost", x.count(5), 0);
        c.due("away", x.count(6), 0);
    }

    private static void noWork(Check c) {
        ParitySpread x = again();
        c.due("lines", x.count(10), 0);
        c.due("loads", x.judged(1), 0);
    }

    private static void nothingSeen(Check c) {
        ParitySpread x = again();
        c.due("seen", x.count(11), 0);
        c.due("who", x.who(), 15);
        x.see(0, false);
        c.due("what was seen is gone", x.who(), 15 & ~(1 << x.datum(0, 2)));
    }

    private static void noMark(Check c) {
        ParitySpread x = again();
        c.due("mark 0", x.mark(0, true), false);
        c.due("mark 1", x.mark(1, true), false);
    }

    private static void allStays(Check c) {
        ParitySpread x = used();
        String wrong = "disks 3;speed 1;parity 1;block once 0 1;block";
        c.due("fault", Check.array(x, wrong), 1 + 16 * 45);
        Answers.same(c, () -> {
            ParitySpread y = used();
            Check.array(y, wrong);
            return y;
        }, EdgesOfArrays::used);
        c.due("byte", x.unit(0, 0, 3), 9);
        c.due("parity", x.stripe(1, 1), 2);
        c.due("lost ones", x.stripe(1, 4), 1);
        c.due("away", x.stripe(0, 5), 1);
        c.due("judged", x.judged(1), 1);
        c.due("grow is of the ARRAY that is", x.grow(1, 1), 12 / 5);
        c.due("mark 1", x.mark(1, true), true);
        c.due("mark 0", x.mark(0, true), true);
        c.due("as it was at mark 0", x.count(4), 15);
    }
}
