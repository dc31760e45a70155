/** Promise 3: array, the TAPE's tokens, and the FAULTS of an ARRAY. */
public final class ArrayTextTest {
    private static final String D3 = "disks 3;";
    private static final String D6 = "disks 6;";
    private static final String D13 = "disks 13;";

    private final Check c = new Check("array text");

    public static void main(String[] args) {
        ArrayTextTest t = new ArrayTextTest();
        t.tokens();
        t.lines();
        t.blocks();
        t.tooMany();
        t.laws();
        t.depth();
        t.leastOfTheFirst();
        t.parities();
        t.longLaws();
        t.begins();
        t.oneAfterAnother();
        t.staysWithFault();
        t.c.end();
    }

    private void fault(String text, int place, int kind) {
        c.due("array \"" + text + "\"", Check.array(new ParitySpread(), text), kind + 16 * place);
    }

    private void right(String text) {
        ParitySpread x = new ParitySpread();
        c.due("array \"" + text + "\"", Check.array(x, text), 0);
        c.due("taken", x.count(12), 0);
    }

    private void tokens() {
        right("");
        right(" \n \n");
        right("disks 3;");
        right("\n disks\n3\n;\n");
        right("disks3;speed4;");
        right("disks 0003;");
        right("disks 13 ;block once 12 0;");
        fault("disks 00003;", 6, 1);
        fault("disks 10000;", 6, 1);
        fault("Disks 3;", 0, 1);
        fault("disk 3;", 0, 1);
        fault("diskss 3;", 0, 1);
        fault("dis ks 3;", 0, 1);
        fault("  disksdisks 3;", 2, 1);
        fault("abcdefghijkl", 0, 1);
        fault("12345", 0, 1);
        fault("disks 3a;", 7, 1);
        fault("disks 3,", 7, 1);
        fault("disks 3:", 7, 1);
        fault("disks 3;~", 8, 1);
        fault("#", 0, 1);
        fault("misks 3;", 0, 1);
        fault("disk7;", 0, 1);
        fault(D3 + "clock once 0 1;", 8, 1);
        fault(D3 + "block unce 0 1;", 14, 1);
    }

    private void lines() {
        fault(";", 0, 1);
        fault("disks", 5, 1);
        fault("disks ", 6, 1);
        fault("disks  \n", 8, 1);
        fault("disks;", 5, 1);
        fault("disks speed;", 6, 1);
        fault("disks 3", 7, 1);
        fault("disks 3 \n", 9, 1);
        fault("disks 3 4;", 8, 1);
        fault("disks 3;;", 8, 1);
        fault("disks 3;7;", 8, 1);
        fault("disks 3;read 0;", 8, 1);
        fault("disks 0;", 6, 4);
        fault("disks 1;", 6, 4);
        fault("disks 14;", 6, 4);
        fault("disks 9999;", 6, 4);
        right("disks 2;");
        right("disks 13;");
        fault("disks 3;disks 3;", 8, 3);
        fault("disks 3; disks", 9, 3);
        fault("speed 0;", 6, 4);
        fault("speed 10;", 6, 4);
        right("speed 1;");
        right("speed 9;");
        fault("speed 4;speed 4;", 8, 3);
        fault("speed;", 5, 1);
        fault("speed 4", 7, 1);
        fault("parity 1;parity 1;", 9, 3);
        right("speed 4;parity 1;disks 3;block once 0 1;block twice 2 1;");
    }

    private void blocks() {
        fault("block once 0 1;", 11, 4);
        fault(D3 + "block", 13, 1);
        fault(D3 + "block;", 13, 1);
        fault(D3 + "block 0 1;", 14, 1);
        fault(D3 + "block often 0 1;", 14, 1);
        fault(D3 + "block once", 18, 1);
        fault(D3 + "block once;", 18, 1);
        fault(D3 + "block once 0", 20, 1);
        fault(D3 + "block once 0;", 20, 1);
        fault(D3 + "block once 0 1", 22, 1);
        fault(D3 + "block once 0 1 speed", 23, 1);
        fault(D3 + "block once 0 1+", 22, 1);
        fault(D3 + "block once 0 3;", 21, 4);
        fault(D3 + "block once 3 0;", 19, 4);
        fault(D3 + "block once 0 9999;", 21, 4);
        fault(D3 + "block once 0 0;", 21, 3);
        fault(D3 + "block once 0 1 0;", 23, 3);
        right(D3 + "block once 0 1;");
        right(D3 + "block cycle 0 1 2;");
        right(D3 + "block mirror 2 0;");
        right(D3 + "block twice 2 1 0;");
        right(D6 + "block once 0 1 2 3 4;");
        fault(D6 + "block once 0 1 2 3 4 5;", 29, 5);
        fault(D6 + "block once 0 1 2 3 4 4;", 29, 3);
        fault(D6 + "block once 0 1 2 3 4 6;", 29, 4);
        fault(D6 + "block once 0 1 2 3 4 12345;", 29, 1);
    }

    private void tooMany() {
        String six = "disks 2;" + "block once 0 1;".repeat(6);
        right(six);
        fault(six + "block once 0 1;", 98, 5);
        fault(six + "block", 98, 5);
        fault(six + "blocks", 98, 1);
        String most = D13 + "block cycle 0 1;".repeat(3);
        right(most);
        right(most + "block once 0 1;");
        fault(most + "block once 0 1;block once 0 1;", 57 + 15 + 14, 5);
        fault(most + "block twice 0 1;", 57 + 15, 5);
        fault(most + "block mirror 0 1 ;", 57 + 17, 5);
        fault(most + "block cycle 0 1;", 57 + 15, 5);
        fault(most + "block cycle 0 1", 57 + 15, 1);
        fault(most + "block cycle 0 13;", 57 + 14, 4);
        right("disks 8;" + "block cycle 0 1;".repeat(5));
        fault("disks 8;" + "block cycle 0 1;".repeat(5) + "block once 0 1;", 88 + 14, 5);
    }

    private void laws() {
        right("parity 1;");
        right("parity stripe+size*first-which<1 and 2=3 or not 4;");
        right("parity 1and 2;");
        right("parity 1 and2;");
        right("parity 1<2 and 2<3 or 3=4;");
        right("parity (1<2)<3;");
        right("parity not(1);");
        right("parity 9999;");
        fault("parity", 6, 1);
        fault("parity ;", 7, 1);
        fault("parity 1", 8, 1);
        fault("parity 1 2;", 9, 1);
        fault("parity 1 stripe;", 9, 1);
        fault("parity 1+;", 9, 1);
        fault("parity 1+-2;", 9, 1);
        fault("parity -1;", 7, 1);
        fault("parity 1<2<3;", 10, 1);
        fault("parity 1=2<3;", 10, 1);
        fault("parity 1=2=3;", 10, 1);
        fault("parity 1<;", 9, 1);
        fault("parity (1;", 9, 1);
        fault("parity (1", 9, 1);
        fault("parity 1);", 8, 1);
        fault("parity ();", 8, 1);
        fault("parity not;", 10, 1);
        fault("parity not and 1;", 11, 1);
        fault("parity and 1;", 7, 1);
        fault("parity 1 and;", 12, 1);
        fault("parity 1 or or 1;", 12, 1);
        fault("parity 1 not 1;", 9, 1);
        fault("parity disks;", 7, 1);
        fault("parity block;", 7, 1);
        fault("parity notstripe;", 7, 1);
        fault("parity 12345;", 7, 1);
        fault("parity 1>2;", 8, 1);
        fault("parity 1/2;", 8, 1);
    }

    private void depth() {
        right("parity ((((1))));");
        right("parity ((((1))))+((((stripe))))*not not not not 1;");
        fault("parity (((((1)))));", 12, 5);
        fault("parity (((((stripe)))));", 12, 5);
        fault("parity ((((((1))))));", 12, 5);
        fault("parity ((((1+(2)))));", 14, 5);
        right("parity not not not not 1;");
        fault("parity not not not not not 1;", 27, 5);
        fault("parity not not not not not not 1;", 27, 5);
        fault("parity (((((not 1)))));", 12, 5);
        fault("parity ((((not 1))));", 15, 5);
        fault("parity not(not(not 1));", 19, 5);
        right("parity not(not(1=2)+3);");
        fault("parity (((((;", 12, 1);
        fault("parity (((((", 12, 1);
        fault("parity ((((()", 12, 1);
        fault("parity (((((and", 12, 1);
        fault("parity (((((disks", 12, 1);
        fault("parity (((((12345", 12, 1);
    }

    private void leastOfTheFirst() {
        fault("disks 1;disks 2;", 6, 4);
        fault("disks 3;disks 99;", 8, 3);
        fault("speed 2;block once 0 12345;", 19, 4);
        fault("disks 3;block once 1 1 9;", 21, 3);
    }

    /** What the E of parity tells, of the STRIPES of one cycle block, or of one with three UNITS. */
    private void parities() {
        law("5", 1, 1, 1, 1, 1);
        law("0-1", 3, 3, 3, 3, 3);
        law("0-6", 2, 2, 2, 2, 2);
        law("stripe", 0, 1, 2, 3, 0);
        law("stripe<2", 1, 1, 0, 0, 0);
        law("2<stripe", 0, 0, 0, 1, 1);
        law("stripe=2", 0, 0, 1, 0, 0);
        law("not stripe", 1, 0, 0, 0, 0);
        law("not not stripe", 0, 1, 1, 1, 1);
        law("2 and 3", 1, 1, 1, 1, 1);
        law("2 or 3", 1, 1, 1, 1, 1);
        law("0 or 0", 0, 0, 0, 0, 0);
        law("2 and 0", 0, 0, 0, 0, 0);
        law("0 and 2", 0, 0, 0, 0, 0);
        law("0 or 2", 1, 1, 1, 1, 1);
        law("1 or 0 and 0", 0, 0, 0, 0, 0);
        law("0 and 0 or 1", 1, 1, 1, 1, 1);
        law("1 or (0 and 0)", 1, 1, 1, 1, 1);
        law("2+3*4", 2, 2, 2, 2, 2);
        law("(2+3)*3", 3, 3, 3, 3, 3);
        law("7-2-1", 0, 0, 0, 0, 0);
        law("7-(2-1)", 2, 2, 2, 2, 2);
        law("not 0=5", 0, 0, 0, 0, 0);
        law("not(0=5)", 1, 1, 1, 1, 1);
        law("not 1+2", 2, 2, 2, 2, 2);
        law("not 1*3", 0, 0, 0, 0, 0);
        law("1+1<3", 1, 1, 1, 1, 1);
        law("3<1+1", 0, 0, 0, 0, 0);
        law("3=2+1 and 2", 1, 1, 1, 1, 1);
        law("size-1", 3, 3, 3, 3, 3);
        law("first", 1, 2, 3, 0, 0);
        law("which", 2, 2, 2, 2, 2);
        law("which*stripe+first", 1, 0, 3, 2, 0);
        ParitySpread x = Check.told(D3 + "block once 0 1 2;parity 9999*9999*9999;");
        c.due("ints wrap", x.stripe(0, 1), Math.floorMod(9999 * 9999 * 9999, 3));
        x = Check.told(D3 + "block once 0 1 2;parity 9999*9999*9999<0;");
        c.due("ints wrap below 0", x.stripe(0, 1), 9999 * 9999 * 9999 < 0 ? 1 : 0);
        x = Check.told(D3 + "block once 0 1 2;parity 0-9999*9999*9999-9999*9999*3000;");
        c.due("ints wrap by -", x.stripe(0, 1), Math.floorMod(-9999 * 9999 * 9999 - 9999 * 9999 * 3000, 3));
    }

    /** The block has the number 2, its STRIPES begin at 0 but for two ahead, taken off again by name. */
    private void law(String e, int... parity) {
        String blocks = "disks 5;block once 0 1;block once 0 1;block cycle 1 2 3 0;";
        ParitySpread x = Check.told(blocks + "parity " + e.replace("stripe", "(stripe-2)") + ";");
        for (int s = 0; s < 5; s++) {
            c.due("parity " + e + " of " + s, x.stripe(s + 2, 1), parity[s]);
        }
    }

    /** As long, and as deep, as can be. */
    private void longLaws() {
        String ends = "disks 5;block once 0 1 2 3 4;parity ";
        String ones = "1+".repeat((1000 - ends.length() - 2) / 2) + "1;";
        ParitySpread x = Check.told(ends + ones);
        c.due("a sum of " + ones.length() / 2, x.stripe(0, 1), ones.length() / 2 % 5);
        // each level leaves four values open and answers what is within it
        String deep = "0 or 1<1+1*(".repeat(4);
        for (int i = 0; i <= 1; i++) {
            ParitySpread y = Check.told(ends + deep + "0 or 1<1+1*" + i + ")".repeat(4) + ";");
            c.due("deep " + i, y.stripe(0, 1), i);
        }
        String wide = "stripe-(3-(3-(3-(0+4*1))))";
        c.due("wide", Check.told(ends + wide + ";").stripe(0, 1), Math.floorMod(-(3 - (3 - (3 - 4))), 5));
        c.due("not within ( )", Check.told(ends + "not(not(1<2)+not 1)*3;").stripe(0, 1), 3);
    }

    /** What was told before leaves nothing behind, whichever of the earlier ones it was. */
    private void oneAfterAnother() {
        ParitySpread x = new ParitySpread();
        String rich = "disks 13;speed 9;parity 1;block cycle 0 1 3 9;block mirror 0 1 2 3 4;block twice 5 6;";
        for (int i = 0; i < 4; i++) {
            c.due("rich", Check.array(x, rich), 0);
            if (i % 2 == 0) {
                c.due("rich again", Check.array(x, rich), 0);
            }
            x.write(0, 200);
            x.see(0, true);
            c.due("poor", Check.array(x, "disks 3;block twice 0 2;block once 1 0;"), 0);
            c.due("speed", x.count(9), 4);
            c.due("blocks", x.count(1), 2);
            c.due("stripes", x.count(2), 3);
            c.due("parity of 0", x.stripe(0, 1), 0);
            c.due("spare of 0", x.stripe(0, 2), 1);
            c.due("at(2, 0)", x.at(2, 0), 1);
            c.due("at(0, 2)", x.at(0, 2), 17);
            c.due("at(2, 2)", x.at(2, 2), 23);
            c.due("units", x.spread(0), 2);
            c.due("parities", x.spread(1), 0);
            c.due("parities on 1", x.disk(1, 2), 1);
            c.due("loads", x.count(8), 0);
            c.due("byte", x.read(0), 0);
            c.due("pairs", x.pairs(1, 2), 0);
            x.see(0, false);
            c.due("who", x.who(), 7);
        }
    }

    /** An ARRAY takes the place of all there was. */
    private void begins() {
        ParitySpread x = Check.told("disks 4;block cycle 0 1 2;speed 7;");
        x.write(0, 9);
        x.lose(1);
        x.see(0, true);
        x.mark(0, false);
        x.mark(1, false);
        Check.work(x, "read 0;lose 1;");
        c.due("second array", Check.array(x, "disks 3;block once 0 1;"), 0);
        int[] due = {3, 1, 1, 1, 7, 0, 0, 0, 0, 4, 0, 0, 0};
        for (int what = 0; what < due.length; what++) {
            c.due("count(" + what + ") of the second array", x.count(what), due[what]);
        }
        c.due("byte", x.read(0), 0);
        c.due("no mark 0", x.mark(0, true), false);
        c.due("no mark 1", x.mark(1, true), false);
        c.due("judged", x.judged(1), 0);
        c.due("empty array", Check.array(x, ""), 0);
        c.due("no disks", x.count(0), 0);
        c.due("no stripes", x.count(2), 0);
        c.due("no disk up", x.count(4), 0);
        c.due("parity is forgotten", Check.array(x, "disks 3;parity 2;block twice 0 1 2;"), 0);
        c.due("parity told", x.stripe(1, 1), 2);
        c.due("array without parity", Check.array(x, "disks 3;block twice 0 1 2;"), 0);
        c.due("parity not told", x.stripe(1, 1), 1);
    }

    private void staysWithFault() {
        ParitySpread x = Check.told("disks 4;block cycle 0 1 2;speed 7;parity 2;");
        x.write(0, 9);
        x.lose(3);
        x.see(0, true);
        x.mark(1, false);
        Check.work(x, "read 0;lose 1;");
        c.due("fault", Check.array(x, "disks 3;block once 0 1;speed 2;parity 1;parity"), 3 + 16 * 40);
        int[] due = {4, 1, 4, 8, 7, 3, 0, 0, 4, 7, 2, 1, 0};
        for (int what = 0; what < due.length; what++) {
            c.due("count(" + what + ") with a fault", x.count(what), due[what]);
        }
        c.due("byte", x.read(0), 9);
        c.due("parity", x.stripe(3, 1), 2);
        c.due("mark stays", x.mark(1, true), true);
        c.due("grow is of the array that is", x.grow(1, 1), 12 / 5);
    }
}
