import java.io.IOException;
import java.lang.reflect.Constructor;
import java.lang.reflect.Field;
import java.lang.reflect.Method;
import java.lang.reflect.Modifier;
import java.nio.file.Files;
import java.nio.file.Path;
import java.util.ArrayList;
import java.util.List;
import java.util.Set;
import java.util.TreeSet;
import java.util.regex.Matcher;
import java.util.regex.Pattern;

/** The class's face as the document writes it, and those rules of LANGUAGE.md that a text shows. */
public final class RuleTest {
    private static final Path SOURCE = Path.of("src/main/java/PatternLanguages.java");
    private static final Path DOCUMENT = Path.of("../shared/DOC.md");
    private static int wrong = 0;

    private static void fault(String text) {
        wrong++;
        System.out.println(text);
    }

    public static void main(String[] args) throws IOException {
        String source = Files.readString(SOURCE);
        String code = withoutCommentsAndTexts(source);
        face();
        names();
        forbiddenWords(code);
        methodLengths(code);
        signs(source);
        System.out.println(wrong == 0 ? "the rules are kept" : wrong + " breaches of the rules");
        if (wrong != 0) {
            System.exit(1);
        }
    }

    /** The lines of the document's face, against the members that the class shows. */
    private static void face() throws IOException {
        Set<String> due = new TreeSet<>();
        String document = Files.readString(DOCUMENT);
        int begin = document.indexOf("```java") + 7;
        for (String line : document.substring(begin, document.indexOf("```", begin)).split("\n")) {
            String text = line.trim().replaceAll("\\s+", " ");
            if (text.startsWith("public") && !text.startsWith("public final class")) {
                due.add(text.replaceAll("(int|long) \\w+(?=[,)])", "$1").replaceAll(" = .*;|;", ""));
            }
        }
        Set<String> shown = new TreeSet<>();
        Class<?> type = PatternLanguages.class;
        for (Constructor<?> c : type.getDeclaredConstructors()) {
            if (!Modifier.isPrivate(c.getModifiers())) {
                shown.add("public PatternLanguages()");
            }
        }
        for (Field f : type.getDeclaredFields()) {
            if (!Modifier.isPrivate(f.getModifiers())) {
                shown.add(Modifier.toString(f.getModifiers()) + " " + f.getType() + " " + f.getName());
            }
        }
        for (Method m : type.getDeclaredMethods()) {
            if (!Modifier.isPrivate(m.getModifiers())) {
                shown.add(Modifier.toString(m.getModifiers()) + " " + m.getReturnType() + " " + m.getName()
                        + "(" + parameters(m) + ")");
            }
        }
        if (!due.equals(shown)) {
            fault("rule 1: the document's face is " + due + ", the class's is " + shown);
        }
        if (due.size() < 50) {
            fault("the document's face was not found");
        }
        if (!Modifier.isFinal(type.getModifiers()) || !Modifier.isPublic(type.getModifiers())) {
            fault("rule 1: the class is not public and final");
        }
    }

    private static String parameters(Method m) {
        List<String> names = new ArrayList<>();
        for (Class<?> p : m.getParameterTypes()) {
            names.add(p.getName());
        }
        return String.join(", ", names);
    }

    private static void names() {
        Set<String> open = new TreeSet<>();
        for (Method m : PatternLanguages.class.getDeclaredMethods()) {
            if (Modifier.isPublic(m.getModifiers())) {
                open.add(m.getName());
            }
        }
        List<Class<?>> types = new ArrayList<>(List.of(PatternLanguages.class.getDeclaredClasses()));
        types.add(PatternLanguages.class);
        for (Class<?> type : types) {
            for (Method m : type.getDeclaredMethods()) {
                if (!Modifier.isPublic(m.getModifiers()) && open.contains(m.getName())) {
                    fault("rule 1: " + type.getName() + "." + m.getName() + " bears a public name");
                }
                if (m.getParameterCount() > 7) {
                    fault("rule 11: " + m.getName() + " has more than seven parameters");
                }
            }
            if (type != PatternLanguages.class && !Modifier.isStatic(type.getModifiers())) {
                fault("rule 2: " + type.getName() + " is not static");
            }
            checkFields(type);
            checkConstructors(type);
        }
        if (types.size() > 12) {
            fault("rule 11: " + types.size() + " classes");
        }
    }

    private static void checkFields(Class<?> type) {
        int own = 0;
        for (Field f : type.getDeclaredFields()) {
            if (!Modifier.isStatic(f.getModifiers())) {
                own++;
            } else if (!Modifier.isFinal(f.getModifiers())) {
                fault("rule 5: " + f + " is static and not final");
            }
        }
        if (own > 20) {
            fault("rule 11: " + type.getName() + " has " + own + " fields");
        }
    }

    /** All these objects are made while the workbench is: what one is given is a part of it. */
    private static void checkConstructors(Class<?> type) {
        for (Constructor<?> c : type.getDeclaredConstructors()) {
            for (Class<?> parameter : c.getParameterTypes()) {
                if (!parameter.isPrimitive()) {
                    fault("rule 12: the constructor of " + type.getName() + " is given a " + parameter.getName());
                }
            }
        }
    }

    private static void forbiddenWords(String code) {
        String[] words = {"throw", "throws", "try", "catch", "finally", "synchronized", "assert", "package",
            "import", "protected", "volatile", "transient", "native", "instanceof", "Object", "Thread", "Random",
            "Exception", "Error", "hashCode", "toString", "equals"};
        for (String word : words) {
            if (Pattern.compile("\\b" + word + "\\b").matcher(code).find()) {
                fault("rules 3 to 6, 13: the word " + word);
            }
        }
        if (code.contains("->") || code.contains("::")) {
            fault("rule 2: a lambda or a method reference");
        }
        Matcher calls = Pattern.compile("\\b(Math|Integer|Long|System|Arrays|String)\\.(\\w+)").matcher(code);
        Set<String> allowed = Set.of("Math.max", "Math.min", "Integer.compare", "Integer.MAX_VALUE",
                "Long.MIN_VALUE", "System.arraycopy");
        while (calls.find()) {
            if (!allowed.contains(calls.group())) {
                fault("rule 4: " + calls.group());
            }
        }
        if (Pattern.compile("while|\\bdo\\b").matcher(code).find()) {
            fault("rule 9: a loop without a counter");
        }
    }

    private static void methodLengths(String code) {
        String[] lines = code.split("\n");
        int begin = -1;
        String indent = "";
        for (int i = 0; i < lines.length; i++) {
            Matcher head = Pattern.compile("^( {4}| {8})(?=\\S)[^;=]*\\).*\\{$").matcher(lines[i]);
            if (begin < 0 && head.find() && !lines[i].contains(" class ")) {
                begin = i;
                indent = head.group(1);
            } else if (begin >= 0 && lines[i].equals(indent + "}")) {
                if (i - begin > 60) {
                    fault("rule 11: the method of line " + (begin + 1) + " has " + (i - begin + 1) + " lines");
                }
                begin = -1;
            }
        }
    }

    private static void signs(String source) {
        for (int i = 0; i < source.length(); i++) {
            if (source.charAt(i) > 127) {
                fault("rule 4: the sign " + source.charAt(i));
            }
        }
    }

    private static String withoutCommentsAndTexts(String source) {
        return source.replaceAll("(?s)/\\*.*?\\*/", "").replaceAll("//.*", "").replaceAll("\"[^\"]*\"", "\"\"");
    }
}
