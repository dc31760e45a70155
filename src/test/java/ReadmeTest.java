import java.io.IOException;
import java.lang.reflect.InvocationTargetException;
import java.lang.reflect.Method;
import java.lang.reflect.Modifier;
import java.nio.file.Files;
import java.nio.file.Path;
import java.util.ArrayList;
import java.util.HashSet;
import java.util.List;
import java.util.Set;
import java.util.TreeSet;
import java.util.concurrent.TimeUnit;
import java.util.regex.Matcher;
import java.util.regex.Pattern;
import java.util.stream.Stream;

/** What README.md says: its calls answer as it says, its lines of shell go through, its table has every test. */
public final class ReadmeTest {
    private static final Path PAGE = Path.of("README.md");
    private static final Path TESTS = Path.of("src/test/java");
    private static final String NEW = "ParitySpread x = new ParitySpread();";
    private static final Pattern CALL = Pattern.compile("x\\.(\\w+)\\(([^()]*)\\); +// (.*)");
    private static final Pattern FED = Pattern.compile("Check\\.feed\\(x, \"([^\"]*)\"\\); +// (.*)");
    private static final Pattern ANSWER = Pattern.compile("(-?\\d+|true|false|NONE|throws \\w+)\\b.*");
    private static final int MOST_SECONDS = 120;

    private final Check c = new Check("readme");
    private final List<String> lines;
    private final Set<String> shown = new HashSet<>();
    private ParitySpread x = new ParitySpread();

    private ReadmeTest() throws IOException {
        lines = Files.readAllLines(PAGE);
    }

    public static void main(String[] args) throws Exception {
        ReadmeTest t = new ReadmeTest();
        t.calls();
        t.everyMethodIsShown();
        t.shell();
        t.table();
        t.c.end();
    }

    /** The lines of all blocks of a language. */
    private List<String> blocks(String language) {
        List<String> found = new ArrayList<>();
        boolean inside = false;
        for (String line : lines) {
            if (line.startsWith("```")) {
                inside = line.equals("```" + language);
            } else if (inside) {
                found.add(line);
            }
        }
        return found;
    }

    private void calls() throws ReflectiveOperationException {
        for (String line : blocks("java")) {
            Matcher call = CALL.matcher(line);
            Matcher fed = FED.matcher(line);
            if (call.matches()) {
                shown.add(call.group(1));
                answer(line, answerOf(call.group(1), call.group(2)), call.group(3));
            } else if (fed.matches()) {
                answer(line, String.valueOf(Check.feed(x, fed.group(1))), fed.group(2));
            } else {
                c.due("a line that is a call: " + line, line.equals(NEW), true);
                x = new ParitySpread();
            }
        }
    }

    private void answer(String line, String got, String says) {
        Matcher m = ANSWER.matcher(says);
        String want = m.matches() ? m.group(1) : "nothing";
        want = want.equals("NONE") ? String.valueOf(ParitySpread.NONE) : want;
        c.due(line + " (answered " + got + ")", got.equals(want), true);
    }

    private String answerOf(String name, String told) throws ReflectiveOperationException {
        String[] parts = told.isEmpty() ? new String[0] : told.split(", ");
        for (Method m : ParitySpread.class.getMethods()) {
            if (m.getName().equals(name) && m.getParameterCount() == parts.length) {
                try {
                    return String.valueOf(m.invoke(x, values(m.getParameterTypes(), parts)));
                } catch (InvocationTargetException e) {
                    return "throws " + e.getCause().getClass().getSimpleName();
                }
            }
        }
        return "no such method";
    }

    private static Object[] values(Class<?>[] types, String[] parts) {
        Object[] values = new Object[parts.length];
        for (int i = 0; i < parts.length; i++) {
            if (types[i] == boolean.class) {
                values[i] = Boolean.valueOf(parts[i]);
            } else if (types[i] == long.class) {
                values[i] = Long.decode(parts[i].replace("L", ""));
            } else {
                values[i] = Integer.valueOf(parts[i]);
            }
        }
        return values;
    }

    private void everyMethodIsShown() {
        for (Method m : ParitySpread.class.getDeclaredMethods()) {
            if (Modifier.isPublic(m.getModifiers())) {
                c.due(m.getName() + " is shown", shown.contains(m.getName()), true);
            }
        }
    }

    private void shell() throws IOException, InterruptedException {
        List<String> block = blocks("sh");
        c.due("lines of shell are shown", block.isEmpty(), false);
        Process shell = new ProcessBuilder("bash", "-e", "-c", String.join("\n", block))
            .redirectErrorStream(true).redirectOutput(ProcessBuilder.Redirect.DISCARD).start();
        boolean ended = shell.waitFor(MOST_SECONDS, TimeUnit.SECONDS);
        c.due("the lines of shell end", ended, true);
        c.due("the lines of shell end with", ended ? shell.exitValue() : -1, 0);
        c.due(".ci/run can be run", Files.isExecutable(Path.of(".ci/run")), true);
        c.due(".ci/run is named", String.join("\n", lines).contains("`.ci/run`"), true);
    }

    private void table() throws IOException {
        Set<String> named = new TreeSet<>();
        for (String line : lines) {
            Matcher m = Pattern.compile("\\| ((\\w+Test(, )?)+) \\| .*").matcher(line);
            if (m.matches()) {
                named.addAll(List.of(m.group(1).split(", ")));
            }
        }
        Set<String> there = new TreeSet<>();
        try (Stream<Path> files = Files.list(TESTS)) {
            files.map(p -> p.getFileName().toString()).filter(n -> n.endsWith("Test.java"))
                .forEach(n -> there.add(n.replace(".java", "")));
        }
        c.due("the table names " + named + ", there are " + there, named.equals(there), true);
    }
}
