import java.io.IOException;
import java.nio.file.Files;
import java.nio.file.Path;

/** Sentences of the document that name a boundary case, each with a test of its own. */
final class Edges {
    /** The test of one sentence. */
    interface Body {
        void run(Check c);
    }

    private static final Path DOCUMENT = Path.of("../shared/DOC.md");
    private static final int PROMISES = 37;

    private final String document;
    private final int[] sentences = new int[PROMISES + 1];
    private int asked;
    private int broken;

    Edges() {
        document = document();
    }

    private static String document() {
        try {
            return Files.exists(DOCUMENT) ? plain(Files.readString(DOCUMENT)) : "";
        } catch (IOException e) {
            return "";
        }
    }

    /** Where the document breaks its lines, and its `, have no part in what it says. */
    private static String plain(String text) {
        return text.replace("`", "").replaceAll("\\s+", " ");
    }

    /** A sentence from ahead of the first promise. */
    void terms(String sentence, Body body) {
        hold(0, sentence, body);
    }

    void promise(int number, String sentence, Body body) {
        hold(number, sentence, body);
    }

    private void hold(int number, String sentence, Body body) {
        String label = (number == 0 ? "terms" : "promise " + number) + ", \"" + sentence + "\"";
        Check c = new Check(label);
        if (!document.isEmpty()) {
            c.due("the document says so", section(number).contains(plain(sentence)), true);
        }
        int before = c.asked();
        try {
            body.run(c);
        } catch (RuntimeException e) {
            c.thrown(e);
        }
        c.due("something is asked", c.asked() > before, true);
        asked += c.asked();
        broken += c.wrong() == 0 ? 0 : 1;
        sentences[number]++;
    }

    private String section(int number) {
        int from = number == 0 ? 0 : document.indexOf("## Promise " + number + ":");
        String next = number == PROMISES ? "## Not promised" : "## Promise " + (number + 1) + ":";
        int to = document.indexOf(next);
        return from >= 0 && to >= from ? document.substring(from, to) : "";
    }

    void end() {
        int all = 0;
        for (int i = 0; i <= PROMISES; i++) {
            all += sentences[i];
            if (sentences[i] == 0) {
                broken++;
                System.out.println("no sentence of promise " + i + " has a test");
            }
        }
        System.out.println(all + " sentences, " + broken + " broken, " + asked + " answers"
            + (document.isEmpty() ? ", no document to hold the sentences against" : ""));
        if (broken != 0) {
            System.exit(1);
        }
    }
}
