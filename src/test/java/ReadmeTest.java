import java.io.IOException;
import java.lang.reflect.Field;
import java.lang.reflect.Method;
import java.lang.reflect.Modifier;
import java.nio.file.Files;
import java.nio.file.Path;
import java.util.List;
import java.util.Set;
import java.util.TreeSet;
import java.util.regex.Matcher;
import java.util.regex.Pattern;
import java.util.stream.Stream;

/** Does the calls that README.md shows, and looks for calls, codes and tests that it leaves out. */
public final class ReadmeTest {
    private static final Path README = Path.of("README.md");
    private static final Path TESTS = Path.of("src/test/java");
    private static final String NEW_OBJECT = "PatternLanguages x = new PatternLanguages();";
    private static final Pattern CALL =
            Pattern.compile("x\\.(\\w+)\\((.*)\\); +// (-?\\d+|[A-Z_]+)(?:: .+)?");
    private static final Set<String> called = new TreeSet<>();
    private static PatternLanguages x = null;
    private static int wrong = 0;

    private static void fault(String text) {
        wrong++;
        System.out.println("README.md: " + text);
    }

    public static void main(String[] args) throws IOException, ReflectiveOperationException {
        List<String> lines = Files.readAllLines(README);
        boolean isJava = false;
        for (String line : lines) {
            if (line.startsWith("```")) {
                isJava = line.equals("```java");
                x = null;
            } else if (isJava) {
                doLine(line);
            }
        }
        calls();
        codes(lines);
        tests(lines);
        System.out.println(wrong == 0 ? "the README holds" : wrong + " faults of the README");
        if (wrong != 0) {
            System.exit(1);
        }
    }

    private static void doLine(String line) throws ReflectiveOperationException {
        Matcher call = CALL.matcher(line);
        if (line.equals(NEW_OBJECT)) {
            x = new PatternLanguages();
        } else if (x == null || !call.matches()) {
            fault("neither a new object nor a call with its answer: " + line);
        } else {
            doCall(line, call.group(1), call.group(2), call.group(3));
        }
    }

    private static void doCall(String line, String name, String arguments, String answer)
            throws ReflectiveOperationException {
        String[] texts = arguments.isEmpty() ? new String[0] : arguments.split(", ");
        Method method = method(name, texts.length);
        if (method == null) {
            fault("there is no such call: " + line);
            return;
        }
        Object[] values = new Object[texts.length];
        for (int i = 0; i < texts.length; i++) {
            long value = texts[i].startsWith("'") ? texts[i].charAt(1) : Long.parseLong(texts[i]);
            if (method.getParameterTypes()[i] == int.class) {
                values[i] = (int) value;
            } else {
                values[i] = value;
            }
        }
        long got = ((Number) method.invoke(x, values)).longValue();
        if (got != number(answer)) {
            fault("the call answers " + got + ": " + line);
        }
        called.add(name);
    }

    private static Method method(String name, int parameters) {
        for (Method m : PatternLanguages.class.getMethods()) {
            if (m.getName().equals(name) && m.getParameterCount() == parameters) {
                return m;
            }
        }
        return null;
    }

    private static long number(String answer) throws ReflectiveOperationException {
        boolean isName = Character.isUpperCase(answer.charAt(0));
        return isName ? PatternLanguages.class.getField(answer).getLong(null) : Long.parseLong(answer);
    }

    private static void calls() {
        for (Method m : PatternLanguages.class.getDeclaredMethods()) {
            if (Modifier.isPublic(m.getModifiers()) && !called.contains(m.getName())) {
                fault("no example has " + m.getName());
            }
        }
    }

    private static void codes(List<String> lines) throws ReflectiveOperationException {
        for (Field f : PatternLanguages.class.getFields()) {
            String row = "| `" + f.getName() + "` | " + f.getLong(null) + " | ";
            if (lines.stream().noneMatch(line -> line.startsWith(row))) {
                fault("no row begins with " + row);
            }
        }
    }

    private static void tests(List<String> lines) throws IOException {
        try (Stream<Path> files = Files.list(TESTS)) {
            for (Path file : (Iterable<Path>) files::iterator) {
                String item = "- `" + TESTS + "/" + file.getFileName() + "`: ";
                if (lines.stream().noneMatch(line -> line.startsWith(item))) {
                    fault("no item begins with " + item);
                }
            }
        }
        for (String due : List.of(".ci/run", "../shared/tests", "../shared/DOC.md")) {
            if (lines.stream().noneMatch(line -> line.contains(due))) {
                fault("it does not name " + due);
            }
        }
    }
}
