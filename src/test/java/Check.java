import java.util.NoSuchElementException;

/** What every test uses: it prints each answer that is not due, and ends with exit code 1 if there was one. */
final class Check {
    private final String name;
    private int asked;
    private int wrong;

    Check(String name) {
        this.name = name;
    }

    void due(String call, long got, long want) {
        asked++;
        if (got != want) {
            wrong++;
            System.out.println(name + ": " + call + " answered " + got + ", due is " + want);
        }
    }

    void due(String call, boolean got, boolean want) {
        due(call, got ? 1 : 0, want ? 1 : 0);
    }

    /** lost(i) must throw what the document names, and nothing else. */
    void noSuchLost(ParitySpread x, int i) {
        int thrown = 0;
        try {
            x.lost(i);
        } catch (RuntimeException e) {
            thrown = e.getClass() == NoSuchElementException.class ? 1 : 2;
        }
        due("lost(" + i + ") throws", thrown, 1);
    }

    /** A new object must find this FAULT in the text of an ARRAY. */
    void fault(String text, int place, int kind) {
        due("array \"" + text + "\"", array(new ParitySpread(), text), kind + 16 * place);
    }

    void right(String text) {
        due("array \"" + text + "\"", array(new ParitySpread(), text), 0);
    }

    void workFault(String array, String text, int place, int kind) {
        due("work \"" + text + "\"", work(told(array), text), kind + 16 * place);
    }

    void workRight(String array, String text, int lines) {
        ParitySpread x = told(array);
        due("work \"" + text + "\"", work(x, text), 0);
        due("lines of \"" + text + "\"", x.count(10), lines);
    }

    /** What count(0), count(1), .. must answer. */
    void counts(ParitySpread x, int... want) {
        for (int what = 0; what < want.length; what++) {
            due("count(" + what + ")", x.count(what), want[what]);
        }
    }

    /** What each DISK's LOADS must be. */
    void loads(ParitySpread x, int... want) {
        for (int disk = 0; disk < want.length; disk++) {
            due("loads of disk " + disk, x.disk(disk, 4), want[disk]);
        }
    }

    int asked() {
        return asked;
    }

    int wrong() {
        return wrong;
    }

    /** What a test threw itself is a wrong answer, too. */
    void thrown(RuntimeException e) {
        wrong++;
        System.out.println(name + ": threw " + e);
    }

    void end() {
        System.out.println(asked + " answers, " + wrong + " not as due");
        if (wrong != 0) {
            System.exit(1);
        }
    }

    /** Feeds a text, 24 signs a call; what the last call answered. */
    static int feed(ParitySpread x, String text) {
        int signs = x.feed(0, 0, 0);
        for (int i = 0; i < text.length(); i += 24) {
            signs = x.feed(bytes(text, i), bytes(text, i + 8), bytes(text, i + 16));
        }
        return signs;
    }

    private static long bytes(String text, int from) {
        long bytes = 0;
        for (int i = from; i < from + 8; i++) {
            bytes = bytes << 8 | (i < text.length() ? text.charAt(i) & 255 : 0);
        }
        return bytes;
    }

    static int array(ParitySpread x, String text) {
        feed(x, text);
        return x.array();
    }

    static int work(ParitySpread x, String text) {
        feed(x, text);
        return x.work();
    }

    /** A new object with an ARRAY that must have no FAULT. */
    static ParitySpread told(String text) {
        ParitySpread x = new ParitySpread();
        int fault = array(x, text);
        if (fault != 0) {
            throw new IllegalStateException("fault " + fault + " in " + text);
        }
        return x;
    }
}
