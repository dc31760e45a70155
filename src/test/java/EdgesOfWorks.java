/** The language of a WORK and its FAULTS; promise 4. */
final class EdgesOfWorks {
    /** Seven DISKS and 14 DATA. */
    private static final String FANO = "disks 7;block cycle 0 1 3;";
    private static final String FORTY = "home 1;".repeat(40);

    private EdgesOfWorks() {
    }

    static void add(Edges e) {
        e.terms("WORK: any number of read N ; write N N ; lose N ; replace N ; rebuild N ; home N ;", EdgesOfWorks::lines);
        e.terms("(a DATUM told; a DATUM, 0 to 255; a DISK; a DISK; 1 to 40; 1 to 40)", EdgesOfWorks::numbers);
        e.terms("40 lines at most", EdgesOfWorks::fortyLines);
        e.terms("the first word of a 41st line of a WORK", EdgesOfWorks::fortyFirst);
        e.terms("A WORK is the WORK.", EdgesOfWorks::isTheWork);
        e.promise(4, "The TAPE is read as a WORK, likewise.", EdgesOfWorks::likewise);
    }

    private static void lines(Check c) {
        c.workRight(FANO, "", 0);
        c.workRight(FANO, " \n", 0);
        c.workRight(FANO, "read 0;write 0 0;lose 0;replace 0;rebuild 1;home 1;", 6);
        c.workFault(FANO, ";", 0, 1);
        c.workFault(FANO, "0;", 0, 1);
        c.workFault(FANO, "disks 3;", 0, 1);
        c.workFault(FANO, "read 0;;", 7, 1);
        c.workFault(FANO, "read", 4, 1);
        c.workFault(FANO, "read;", 4, 1);
        c.workFault(FANO, "read 0", 6, 1);
        c.workFault(FANO, "read 0 0;", 7, 1);
        c.workFault(FANO, "write 0;", 7, 1);
        c.workFault(FANO, "write 0 0 0;", 10, 1);
        c.workFault(FANO, "lose 0 0;", 7, 1);
        c.workFault(FANO, "replace;", 7, 1);
        c.workFault(FANO, "rebuild home", 8, 1);
        c.workFault(FANO, "home;", 4, 1);
        c.workFault(FANO, "rest 0;", 0, 1);
    }

    private static void numbers(Check c) {
        c.workRight(FANO, "read 0;read 13;", 2);
        c.workFault(FANO, "read 14;", 5, 4);
        c.workRight(FANO, "write 0 0;write 13 255;", 2);
        c.workFault(FANO, "write 14 0;", 6, 4);
        c.workFault(FANO, "write 0 256;", 8, 4);
        c.workRight(FANO, "lose 0;lose 6;", 2);
        c.workFault(FANO, "lose 7;", 5, 4);
        c.workRight(FANO, "replace 0;replace 6;", 2);
        c.workFault(FANO, "replace 7;", 8, 4);
        c.workRight(FANO, "rebuild 1;rebuild 40;", 2);
        c.workFault(FANO, "rebuild 0;", 8, 4);
        c.workFault(FANO, "rebuild 41;", 8, 4);
        c.workRight(FANO, "home 1;home 40;", 2);
        c.workFault(FANO, "home 0;", 5, 4);
        c.workFault(FANO, "home 41;", 5, 4);
        c.workFault("disks 3;", "read 0;", 5, 4);
        c.workFault("disks 3;", "write 0 0;", 6, 4);
        c.workRight("disks 3;", "lose 2;", 1);
        c.workFault("", "lose 0;", 5, 4);
        c.workFault("", "replace 0;", 8, 4);
        c.workRight("", "rebuild 1;home 40;", 2);
    }

    private static void fortyLines(Check c) {
        c.workRight(FANO, "home 1;".repeat(39), 39);
        c.workRight(FANO, FORTY, 40);
        c.workFault(FANO, FORTY + "home 1;", 280, 5);
        ParitySpread x = Check.told(FANO);
        Check.work(x, "home 1;".repeat(39) + "read 3;");
        c.due("the 40th is done", x.judged(1), 1);
        Check.work(x, "home 1;".repeat(39) + "replace 3;");
        c.due("the 40th can't be", x.judged(0), 39);
    }

    private static void fortyFirst(Check c) {
        String[] words = {"read", "write", "lose", "replace", "rebuild", "home"};
        for (String word : words) {
            c.workFault(FANO, FORTY + word, 280, 5);
            c.workFault(FANO, FORTY + " " + word + " 9999;", 281, 5);
        }
        c.workFault(FANO, FORTY + "rest", 280, 1);
        c.workFault(FANO, FORTY + ";", 280, 1);
        c.workFault(FANO, FORTY + "7", 280, 1);
        c.workRight(FANO, FORTY + " \n", 40);
    }

    private static void isTheWork(Check c) {
        ParitySpread x = Check.told(FANO);
        Check.work(x, "read 0;read 1;read 2;");
        c.due("three", x.judged(1), 3);
        Check.work(x, "write 0 1;");
        c.due("another one", x.judged(1), 4);
        c.due("its lines", x.count(10), 1);
        Check.work(x, "");
        c.due("an empty one", x.judged(1), 0);
        c.due("no lines", x.count(10), 0);
    }

    private static void likewise(Check c) {
        ParitySpread x = Check.told(FANO);
        x.write(3, 200);
        x.see(3, false);
        x.mark(0, false);
        x.lose(1);
        c.due("without a FAULT", Check.work(x, "read 0;read 1;"), 0);
        c.due("with a FAULT", Check.work(x, "lose 0;lose 1;lose 2;oops"), 1 + 16 * 21);
        c.counts(x, 7, 1, 7, 14, 125, 3, 0, 0, 4, 4, 2, 1, 0);
        c.due("the WORK stays", x.judged(1), 2);
        c.due("the byte stays", x.read(3), 200);
        c.due("the MARK stays", x.mark(0, true), true);
    }
}
