/** The TAPE and its tokens; promises 1 and 2. */
final class EdgesOfTokens {
    private static final long BLANKS = 0x2020202020202020L;

    private EdgesOfTokens() {
    }

    static void add(Edges e) {
        e.terms("An object is used for at most 512 calls after it has been made", EdgesOfTokens::lastCall);
        e.terms("The TAPE has at most 1,000 signs", EdgesOfTokens::fullTape);
        e.terms("signs, 10 and 32 .. 126", EdgesOfTokens::signs);
        e.terms("what reads it takes it: it is empty then", EdgesOfTokens::taken);
        e.terms("TOKENS, each as long as can be", EdgesOfTokens::longest);
        e.terms("blanks (10, 32) between where one likes", EdgesOfTokens::blanks);
        e.terms("WORDS (letters a .. z, 8 at most)", EdgesOfTokens::words);
        e.terms("NUMBERS (1 to 4 digits; a letter may stand right behind)", EdgesOfTokens::numbers);
        e.terms("the signs ( ) < = + - * ;", EdgesOfTokens::signTokens);
        e.terms("All else (a longer WORD or NUMBER, too, at its first sign) is none.", EdgesOfTokens::none);
        e.terms("At first: nothing.", EdgesOfTokens::nothingAtFirst);
        e.promise(1, "Nothing.", EdgesOfTokens::newObject);
        e.promise(2, "Up to 24 signs come behind the TAPE", EdgesOfTokens::behind);
        e.promise(2, "the bytes of a, b, c, of each the highest first", EdgesOfTokens::highestFirst);
        e.promise(2, "others than 10 and 32 .. 126", EdgesOfTokens::othersLeftOut);
        e.promise(2, "and what is beyond 1,000, are left out", EdgesOfTokens::beyondLeftOut);
        e.promise(2, "how many there are", EdgesOfTokens::howMany);
    }

    private static void lastCall(Check c) {
        ParitySpread x = new ParitySpread();
        x.feed(0x6469736B7320373BL, 0x626C6F636B206379L, 0x636C652030203120L);
        x.feed(0x333B000000000000L, 0, 0);
        x.array();
        for (int call = 4; call <= 511; call++) {
            c.due("call " + call, x.read(call % 14), 0);
        }
        c.due("the 512th call", x.count(8), 508);
    }

    /** A text whose last sign is the 1,000th, and one that is a sign longer. */
    private static void fullTape(Check c) {
        String blanks = " ".repeat(992);
        ParitySpread x = new ParitySpread();
        c.due("999 signs", Check.feed(x, "disks 7" + blanks), 999);
        c.due("1,000 signs", Check.feed(x, ";"), 1000);
        c.due("the 1,000th is read", x.array(), 0);
        c.due("disks", x.count(0), 7);
        c.due("1,000 signs", Check.feed(x, "disks 6 " + blanks), 1000);
        c.due("still 1,000 signs", Check.feed(x, ";"), 1000);
        c.due("the 1,001st is not there", x.array(), 1 + 16 * 1000);
        c.due("disks as before", x.count(0), 7);
    }

    private static void signs(Check c) {
        int[] in = {10, 32, 33, 126};
        int[] out = {0, 9, 11, 13, 31, 127, 128, 138, 160, 255};
        for (int sign : in) {
            c.due("sign " + sign, new ParitySpread().feed(sign, 0, 0), 1);
        }
        for (int sign : out) {
            c.due("sign " + sign, new ParitySpread().feed(sign, 0, 0), 0);
        }
    }

    private static void taken(Check c) {
        String[] texts = {"disks 7;", "oops", "", " "};
        for (String text : texts) {
            ParitySpread x = new ParitySpread();
            Check.array(x, text);
            c.due("signs after array of \"" + text + "\"", x.count(12), 0);
            c.due("the next sign", x.feed(0x3B, 0, 0), 1);
            Check.work(x, text);
            c.due("signs after work of \"" + text + "\"", x.count(12), 0);
            c.due("the next sign", x.feed(0x3B, 0, 0), 1);
        }
        ParitySpread x = Check.told("disks 7;");
        c.due("array of nothing", x.array(), 0);
        c.due("disks then", x.count(0), 0);
        c.due("work of nothing", Check.work(x, "home 1;") + x.work(), 0);
        c.due("lines then", x.count(10), 0);
    }

    private static void longest(Check c) {
        c.fault("diskss 3;", 0, 1);
        c.fault("speed 12;", 6, 4);
        c.fault("speed 1 2;", 8, 1);
        c.fault("disks 3;block onceonce 0 1;", 14, 1);
        c.fault("parity notnot 1;", 7, 1);
        c.fault("parity 1 andand 1;", 9, 1);
        ParitySpread x = Check.told("disks 13;block once 1 12;");
        c.due("12 is one number", x.unit(0, 1, 0), 12);
    }

    private static void blanks(Check c) {
        c.right("disks3;block once0 1;parity not(1)and 2;");
        c.right("\n\n disks \n 3 \n ; \n block\nonce  0\n1 ;\n \n");
        c.right(" ");
        c.right("\n");
        c.fault("dis ks 3;", 0, 1);
        c.fault("dis\nks 3;", 0, 1);
        c.fault(" \n speed 1\n0;", 11, 1);
        c.workRight("disks 3;", "lose0;replace\n0\n;home1;", 3);
    }

    /** No WORD that may stand anywhere has 8 letters: one that is longer must not be cut into two. */
    private static void words(Check c) {
        c.fault("disksa 3;", 0, 1);
        c.fault("disksz 3;", 0, 1);
        c.fault("disks` 3;", 5, 1);
        c.fault("disks{ 3;", 5, 1);
        c.fault("disksA 3;", 5, 1);
        c.fault("disksZ 3;", 5, 1);
        c.fault("DISKS 3;", 0, 1);
        c.fault("misks 3;", 0, 1);
        c.fault("diskr 3;", 0, 1);
        c.fault("disk 3;", 0, 1);
        c.fault("abcdefgh", 0, 1);
        c.fault("abcdefghi", 0, 1);
        c.fault("speed 3;abcdefghdisks 3;", 8, 1);
    }

    private static void numbers(Check c) {
        c.right("speed 9;");
        c.right("speed 09;");
        c.right("speed 0009;");
        c.fault("speed 00009;", 6, 1);
        c.fault("speed 10000;", 6, 1);
        c.right("parity 9999;");
        c.fault("parity 09999;", 7, 1);
        c.right("parity 1and 0;");
        c.right("parity 0or 0;");
        c.fault("speed 3a;", 7, 1);
        c.fault("speed 3/", 7, 1);
        c.fault("speed 3:", 7, 1);
        c.fault("speed /3;", 6, 1);
        c.fault("speed :3;", 6, 1);
    }

    private static void signTokens(Check c) {
        c.right("parity (1<2)=3+4-5*6;");
        String tokens = "()<=+-*;";
        for (char sign = 33; sign <= 126; sign++) {
            boolean letterOrDigit = (sign >= 'a' && sign <= 'z') || (sign >= '0' && sign <= '9');
            if (!letterOrDigit && tokens.indexOf(sign) < 0) {
                c.fault("parity 1" + sign + "2;", 8, 1);
            }
        }
        c.fault("parity 1<=2;", 9, 1);
        c.fault("parity 1==2;", 9, 1);
    }

    /** Of a token that is none it is the first sign that tells its place, and no other kind than 1 is told of it. */
    private static void none(Check c) {
        c.fault("  abcdefghijkl 3;", 2, 1);
        c.fault("disks  123456;", 7, 1);
        c.fault("#disks 3;", 0, 1);
        c.fault("disks 3;block once 0 12345;", 21, 1);
        c.fault("parity (((((12345", 12, 1);
        c.fault("parity (((((abcdefghi", 12, 1);
        c.workFault("disks 3;", "home 1;".repeat(40) + " readreadr 1;", 281, 1);
        c.workFault("disks 3;", "home 1;".repeat(40) + "!", 280, 1);
    }

    private static void nothingAtFirst(Check c) {
        c.counts(new ParitySpread(), 0, 0, 0, 0, 0, 0, 0, 0, 0, 4, 0, 0, 0);
    }

    private static void newObject(Check c) {
        ParitySpread x = new ParitySpread();
        c.due("stripe", x.stripe(0, 0), -2);
        c.due("unit", x.unit(0, 0, 0), -2);
        c.due("datum", x.datum(0, 0), -2);
        c.due("at", x.at(0, 0), -1);
        c.due("disk", x.disk(0, 0), -1);
        c.due("lose", x.lose(0), -1);
        c.due("replace", x.replace(0), false);
        c.due("judged's line", x.judged(0), -1);
        c.due("judged's loads", x.judged(1), 0);
        c.due("rebuild", x.rebuild(40), 0);
        c.due("home", x.home(40), 0);
        c.due("risk", x.risk(), 0);
        c.due("who", x.who(), 0);
        c.due("ask", x.ask(), -1);
        c.noSuchLost(x, 0);
        c.due("no mark", x.mark(0, true) || x.mark(1, true), false);
        c.due("an ARRAY of nothing is one", x.array(), 0);
        c.due("a WORK of nothing is one", x.work(), 0);
    }

    private static void behind(Check c) {
        ParitySpread x = new ParitySpread();
        c.due("no sign", x.feed(0, 0, 0), 0);
        c.due("24 signs", x.feed(BLANKS, BLANKS, BLANKS), 24);
        c.due("one sign", x.feed(0x7A, 0, 0), 25);
        c.due("none more", x.feed(0, 0, 0), 25);
        c.due("it is behind the others", x.array(), 1 + 16 * 24);
    }

    /** "disks 7;" lies over a, b and c; any other order would be another text. */
    private static void highestFirst(Check c) {
        ParitySpread x = new ParitySpread();
        c.due("signs", x.feed(0x6400000000000069L, 0x0073006B00007300L, 0x2000000000373B00L), 8);
        c.due("array", x.array(), 0);
        c.due("disks", x.count(0), 7);
        c.due("the highest bit is no sign", x.feed(Long.MIN_VALUE, -1L, Long.MIN_VALUE), 0);
    }

    private static void othersLeftOut(Check c) {
        ParitySpread x = new ParitySpread();
        c.due("signs among others", x.feed(0x096469730B6B737FL, 0x0D0020FF1F370080L, 0x3B7F80FF0102030EL), 8);
        c.due("array", x.array(), 0);
        c.due("disks", x.count(0), 7);
    }

    private static void beyondLeftOut(Check c) {
        ParitySpread x = new ParitySpread();
        for (int i = 1; i <= 41; i++) {
            x.feed(BLANKS, BLANKS, BLANKS);
        }
        c.due("16 of 24 signs", x.feed(BLANKS, BLANKS, 0x2323232323232323L), 1000);
        c.due("none of 24 signs", x.feed(0x2323232323232323L, 0x2323232323232323L, 0x2323232323232323L), 1000);
        c.due("blanks alone are there", x.array(), 0);
    }

    private static void howMany(Check c) {
        ParitySpread x = new ParitySpread();
        c.due("three", x.feed(0x61, 0x62, 0x63), 3);
        c.due("in all", x.feed(0x61, 0, 0x63), 5);
        c.due("as count tells", x.count(12), 5);
    }
}
