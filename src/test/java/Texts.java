import java.util.ArrayList;
import java.util.Collections;
import java.util.List;
import java.util.Random;

/** Random texts for the random runs: right ones, and right ones spoilt. */
final class Texts {
    private static final String[] KINDS = {"once", "cycle", "mirror", "twice"};
    private static final String[] FACTS = {"stripe", "size", "first", "which"};
    private static final String[] JOINS = {"and", "or", "<", "=", "+", "-", "*"};
    private static final String[] BITS = {"disks", "block", "parity", "speed", "once", "cycle", "mirror", "twice", "read",
        "write", "lose", "replace", "rebuild", "home", "stripe", "size", "first", "which", "not", "and", "or", "(", ")",
        "<", "=", "+", "-", "*", ";", "0", "1", "2", "5", "13", "14", "40", "41", "255", "256", "9999", "10000",
        "abcdefgh", "abcdefghi", "a", "A", ">", "#", "not not not not not", "((((("};

    private final Random random;
    /** How many of not and ( ) an E may have round a part: now and then one too many. */
    private final int deepest;

    Texts(Random random) {
        this.random = random;
        deepest = random.nextInt(8) == 0 ? 5 : 4;
    }

    private String blank() {
        return random.nextInt(12) == 0 ? "\n" : random.nextInt(12) == 0 ? "  " : " ";
    }

    private String maybeBlank() {
        return random.nextInt(4) == 0 ? blank() : "";
    }

    String array() {
        int disks = 2 + random.nextInt(12);
        List<String> late = new ArrayList<>();
        if (random.nextInt(3) > 0) {
            late.add("speed" + blank() + (1 + random.nextInt(9)) + maybeBlank() + ";");
        }
        if (random.nextInt(4) > 0) {
            late.add("parity" + blank() + e(random.nextInt(4), 0) + maybeBlank() + ";");
        }
        int stripes = 0;
        int many = random.nextInt(random.nextInt(10) == 0 ? 10 : 7);
        for (int i = 0; i < many; i++) {
            String kind = KINDS[random.nextInt(4)];
            int of = kind.equals("once") ? 1 : kind.equals("cycle") ? disks : 2;
            if (stripes + of <= 40 || random.nextInt(10) == 0) {
                stripes += of;
                late.add("block" + blank() + kind + blank() + members(disks) + ";");
            }
        }
        Collections.shuffle(late, random);
        StringBuilder text = new StringBuilder("disks" + blank() + disks + maybeBlank() + ";");
        for (String line : late) {
            if (line.startsWith("block") || random.nextInt(3) > 0) {
                text.append(maybeBlank()).append(line);
            } else {
                text.insert(0, line);
            }
        }
        return text.length() > 960 ? text.substring(0, text.indexOf(";") + 1) : text.toString();
    }

    private String members(int disks) {
        List<Integer> all = new ArrayList<>();
        for (int d = 0; d < disks; d++) {
            all.add(d);
        }
        Collections.shuffle(all, random);
        StringBuilder text = new StringBuilder();
        int size = Math.min(disks, 2 + random.nextInt(4));
        for (int i = 0; i < size; i++) {
            text.append(i == 0 ? "" : blank()).append(all.get(i));
        }
        return text + maybeBlank();
    }

    private String e(int more, int within) {
        StringBuilder text = new StringBuilder(part(within));
        boolean compared = false;
        for (int i = 0; i < more; i++) {
            String join = JOINS[random.nextInt(JOINS.length)];
            boolean compares = join.equals("<") || join.equals("=");
            if (compares && compared) {
                join = "+";
            }
            compared = join.equals("and") || join.equals("or") ? false : compared || compares;
            boolean word = join.equals("and") || join.equals("or");
            text.append(word ? blank() : maybeBlank()).append(join).append(word ? blank() : maybeBlank()).append(part(within));
        }
        return text.toString();
    }

    private String part(int within) {
        int kind = random.nextInt(within < deepest ? 8 : 5);
        if (kind == 5) {
            return "not" + blank() + part(within + 1);
        }
        if (kind > 5) {
            return "(" + maybeBlank() + e(random.nextInt(3), within + 1) + maybeBlank() + ")";
        }
        return kind == 4 ? "" + random.nextInt(random.nextBoolean() ? 7 : 10000) : FACTS[kind];
    }

    String work(int data, int disks) {
        StringBuilder text = new StringBuilder();
        int many = random.nextInt(5) == 0 ? 41 : random.nextInt(40);
        for (int i = 0; i < many; i++) {
            int kind = random.nextInt(8);
            String line;
            if (kind < 3 && data > 0) {
                line = kind == 0 ? "read " + random.nextInt(data)
                    : "write" + blank() + random.nextInt(data) + blank() + random.nextInt(256);
            } else if (kind < 6 && disks > 0) {
                line = (kind == 5 ? "replace" : "lose") + blank() + random.nextInt(disks);
            } else {
                line = (kind == 6 ? "rebuild" : "home") + blank() + (1 + random.nextInt(40));
            }
            text.append(line).append(maybeBlank()).append(';').append(maybeBlank());
        }
        return text.toString();
    }

    /** A bit put in, left out, or in another's place. */
    String spoilt(String text) {
        StringBuilder b = new StringBuilder(text);
        int times = 1 + random.nextInt(2);
        for (int i = 0; i < times; i++) {
            int at = random.nextInt(b.length() + 1);
            String bit = BITS[random.nextInt(BITS.length)];
            switch (random.nextInt(6)) {
                case 0: b.setLength(at); break;
                case 5: repeatLine(b, at); break;
                case 1: b.insert(at, bit); break;
                case 2: b.insert(at, " " + bit + " "); break;
                case 3: b.delete(at, Math.min(b.length(), at + 1 + random.nextInt(4))); break;
                default: replaceToken(b, at, bit);
            }
        }
        return b.toString();
    }

    private static void repeatLine(StringBuilder b, int at) {
        int from = b.lastIndexOf(";", at) + 1;
        int to = b.indexOf(";", from) + 1;
        b.append(from < to ? b.substring(from, to) : ";");
    }

    private static void replaceToken(StringBuilder b, int at, String bit) {
        int end = at;
        while (end < b.length() && Character.isLetterOrDigit(b.charAt(end))) {
            end++;
        }
        b.replace(at, Math.max(end, Math.min(at + 1, b.length())), bit);
    }
}
