import java.io.IOException;
import java.lang.reflect.Field;
import java.lang.reflect.Method;
import java.lang.reflect.Modifier;
import java.nio.charset.StandardCharsets;
import java.nio.file.Files;
import java.nio.file.Path;
import java.util.ArrayList;
import java.util.Arrays;
import java.util.HashSet;
import java.util.List;
import java.util.Set;
import java.util.regex.Matcher;
import java.util.regex.Pattern;

/** What of LANGUAGE.md can be seen from the source's text and from its classes; run from the project's folder. */
public final class LanguageTest {
    private static final Path SOURCE = Path.of("src/main/java/ParitySpread.java");
    private static final Set<String> LIBRARY = Set.of("Math.max", "Math.min", "Math.abs", "Math.floorMod",
        "Math.floorDiv", "Integer.bitCount", "Integer.compare", "Long.bitCount", "System.arraycopy", "Arrays.fill",
        "Arrays.copyOf");
    private static final String[] BARRED = {"package ", "->", "::", "catch", "try ", "finally", "synchronized", "assert ",
        "static {", "Object ", "instanceof", "protected ", "double", "float", "String.format", "Exact(", "getClass",
        "hashCode", "toString", "List<", "while (true", "for (;;", "System.out", "Random", "Thread", "@"};

    private final Check c = new Check("language");
    private final String text;
    private final String code;

    private LanguageTest() throws IOException {
        text = Files.readString(SOURCE, StandardCharsets.ISO_8859_1);
        code = text.replaceAll("(?s)/\\*.*?\\*/", "").replaceAll("//[^\n]*", "").replaceAll("\"[^\"\n]*\"", "\"\"");
    }

    public static void main(String[] args) throws IOException {
        LanguageTest t = new LanguageTest();
        t.signs();
        t.words();
        t.library();
        t.lengths();
        List<Class<?>> all = new ArrayList<>(List.of(ParitySpread.class));
        all.addAll(Arrays.asList(ParitySpread.class.getDeclaredClasses()));
        t.c.due("at most 12 classes", all.size() <= 12, true);
        for (Class<?> one : all) {
            t.members(one);
        }
        t.c.end();
    }

    private void signs() {
        for (int i = 0; i < text.length(); i++) {
            char sign = text.charAt(i);
            if (sign != 10 && (sign < 32 || sign > 126)) {
                c.due("sign at " + i, sign, 32);
            }
        }
    }

    private void words() {
        for (String barred : BARRED) {
            c.due("barred: " + barred, code.contains(barred), false);
        }
        Matcher imports = Pattern.compile("import ([^;]*);").matcher(code);
        while (imports.find()) {
            c.due("import " + imports.group(1), imports.group(1).equals("java.util.NoSuchElementException"), true);
        }
        Matcher thrown = Pattern.compile("throw ([^(;]*)").matcher(code);
        while (thrown.find()) {
            c.due("throw " + thrown.group(1), thrown.group(1).equals("new NoSuchElementException"), true);
        }
        c.due("\" + \" joins no text", Pattern.compile("\"\" \\+|\\+ \"\"").matcher(code).find(), false);
    }

    private void library() {
        Matcher m = Pattern.compile("\\b(Math|Integer|Long|System|Arrays|String|Character)\\.(\\w+)").matcher(code);
        while (m.find()) {
            c.due("library " + m.group(), LIBRARY.contains(m.group()), true);
        }
    }

    /** A method begins with a line of 4 or 8 blanks that ends in "{" and ends with "}" below it. */
    private void lengths() {
        String[] lines = code.split("\n");
        for (int i = 0; i < lines.length; i++) {
            Matcher head = Pattern.compile("^( {4}| {8})\\S.*\\(.*\\).*\\{$").matcher(lines[i]);
            if (head.find()) {
                int end = i;
                while (end < lines.length - 1 && !lines[end].equals(head.group(1) + "}")) {
                    end++;
                }
                c.due("lines of " + lines[i].trim() + " are " + (end - i), end - i <= 60, true);
            }
        }
    }

    private void members(Class<?> one) {
        boolean outer = one == ParitySpread.class;
        c.due(one + " static", outer || Modifier.isStatic(one.getModifiers()), true);
        Set<String> face = new HashSet<>();
        for (Method m : ParitySpread.class.getDeclaredMethods()) {
            if (Modifier.isPublic(m.getModifiers())) {
                face.add(m.getName());
            }
        }
        for (Method m : one.getDeclaredMethods()) {
            c.due(m + " takes at most seven", m.getParameterCount() <= 7, true);
            boolean own = !outer || Modifier.isPrivate(m.getModifiers());
            c.due(m + " bears a name of the face", own && face.contains(m.getName()), false);
        }
        int fields = 0;
        for (Field f : one.getDeclaredFields()) {
            if (Modifier.isStatic(f.getModifiers())) {
                c.due(f + " final", Modifier.isFinal(f.getModifiers()), true);
                c.due(f + " int", f.getType() == int.class, true);
            } else {
                fields++;
            }
        }
        c.due(one + " has at most twenty fields", fields <= 20, true);
    }
}
