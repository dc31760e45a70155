import java.util.NoSuchElementException;

/** What every test uses: it prints each answer that is not due, and ends with exit code 1 if there was one. */
final class Check {
    private final String name;
    private int asked;
    private int wrong;

    Check(String name) {
        this.name = name;
    }

    void due(String call, long got, long want) {
        asked++;
        if (got != want) {
            wrong++;
            System.out.println(name + ": " + call + " answered " + got + ", due is " + want);
        }
    }

    void due(String call, boolean got, boolean want) {
        due(call, got ? 1 : 0, want ? 1 : 0);
    }

    /** lost(i) must throw what the document names, and nothing else. */
    void noSuchLost(ParitySpread x, int i) {
        int thrown = 0;
        try {
            x.lost(i);
        } catch (RuntimeException e) {
            thrown = e.getClass() == NoSuchElementException.class ? 1 : 2;
        }
        due("lost(" + i + ") throws", thrown, 1);
    }

    void end() {
        System.out.println(asked + " answers, " + wrong + " not as due");
        if (wrong != 0) {
            System.exit(1);
        }
    }

    /** Feeds a text, 24 signs a call; what the last call answered. */
    static int feed(ParitySpread x, String text) {
        int signs = x.feed(0, 0, 0);
        for (int i = 0; i < text.length(); i += 24) {
            signs = x.feed(bytes(text, i), bytes(text, i + 8), bytes(text, i + 16));
        }
        return signs;
    }

    private static long bytes(String text, int from) {
        long bytes = 0;
        for (int i = from; i < from + 8; i++) {
            bytes = bytes << 8 | (i < text.length() ? text.charAt(i) & 255 : 0);
        }
        return bytes;
    }

    static int array(ParitySpread x, String text) {
        feed(x, text);
        return x.array();
    }

    static int work(ParitySpread x, String text) {
        feed(x, text);
        return x.work();
    }

    /** A new object with an ARRAY that must have no FAULT. */
    static ParitySpread told(String text) {
        ParitySpread x = new ParitySpread();
        int fault = array(x, text);
        if (fault != 0) {
            throw new IllegalStateException("fault " + fault + " in " + text);
        }
        return x;
    }
}
