import java.io.IOException;
import java.nio.file.Files;
import java.nio.file.Path;
import java.util.ArrayList;
import java.util.HashMap;
import java.util.List;
import java.util.Map;
import java.util.function.Consumer;
import java.util.function.ToLongFunction;

/**
 * The document sentence by sentence: the value at each bound, the one beyond it, and what a
 * refused call leaves as it was. Each test names the sentence it is for, as the document writes it;
 * the last look is whether the document has a sentence that no test names.
 */
public final class BoundaryTest {
    private static final Path DOCUMENT = Path.of("../shared/DOC.md");
    private static final long NO_VALUE = Long.MIN_VALUE;
    private static final int MAX = Integer.MAX_VALUE;
    private static final int MIN = Integer.MIN_VALUE;

    private static final int[] NO_REGISTERS = {-1, 6, MIN, MAX};
    private static final int[] NO_MODES = {-1, 2, MIN, MAX};
    private static final int[] NO_SLOTS = {-1, 4, MIN, MAX};
    /** With 10 added, as for a code, -10 would be the letter a, and the last ones wrap around. */
    private static final int[] NO_VARIABLES = {-1, 4, -10, -8, MIN, MIN + 5, MAX, MAX - 9};
    private static final int[] NO_POSITIONS = {-1, MIN, MAX};

    private static final String[] NO_WORDS = {"aaaaaaaaa", "cbacbacbacbacbacbacb", "d", "abd", "`", "A", "X", "aXb",
        "W", " ", "a ", " a", "ab\0", "\0", "\177"};
    private static final String[] NO_PATTERNS = {"", "aaaaaaaaa", "XXXXXXXXX", "XYZWXYZWXYZWXYZWXYZW", "d", "aXd", "`",
        "V", "[", "x", "w", "A", "X ", " X", "aX\0", "\0", "\177"};

    /** No two places have the same letters in all words, so that five symbols need five variables. */
    private static final String[] FIVE_COLUMNS = {"abbab", "babba", "aabba", "bbaab", "babab", "aaaab"};

    private static Map<String, List<String>> document = new HashMap<>();
    private static final Map<String, List<String>> named = new HashMap<>();
    private static String section = "";
    private static String sentence = "";
    private static int wrong = 0;

    public static void main(String[] args) throws IOException {
        document = sections(Files.readString(DOCUMENT));
        description();
        details();
        constants();
        benchAndInput();
        registers();
        refinement();
        matching();
        imagesAndSample();
        generality();
        learning();
        languages();
        arrays();
        snapshots();
        everySentenceIsNamed();
        System.out.println(wrong == 0 ? "the bounds hold" : wrong + " faults at the bounds");
        if (wrong != 0) {
            System.exit(1);
        }
    }

    private static void description() {
        calls512();
        words();
        patterns();
        modes();
        matchesOfWords();
        generalPatterns();
        registersAndSample();
        betterPatterns();
        inputBuffer();
        slots();
        newWorkbench();
    }

    private static void benchAndInput() {
        newObject();
        reset();
        letters();
        append();
        clearInput();
    }

    private static void registers() {
        setPattern();
        copy();
        length();
        symbol();
        variableCount();
        occurrences();
        compareQuality();
    }

    private static void refinement() {
        replace();
        merge();
        split();
        transformWords();
        transformRefusals();
    }

    private static void matching() {
        matches();
        matchCount();
        match();
        matchRefusals();
    }

    private static void imagesAndSample() {
        setImage();
        imageLetter();
        addProduced();
        addWord();
        removeWord();
        sampleSize();
        sampleCode();
        firstMisfit();
    }

    private static void generality() {
        isMoreGeneral();
        chainBreak();
    }

    private static void learning() {
        findPattern();
        findPatternRefusals();
        findOneVariable();
    }

    private static void languages() {
        countWords();
        difference();
    }

    private static void arrays() {
        allocate();
        release();
        putElement();
        element();
        copyElements();
        copyElementsRefusals();
        loadPattern();
        loadPatternRefusals();
    }

    private static void snapshots() {
        snapshot();
        restore();
    }

    // The document's sentences

    /** The sections by their heads, each as its sentences and the parts between semicolons. */
    private static Map<String, List<String>> sections(String text) {
        Map<String, List<String>> found = new HashMap<>();
        for (String part : text.split("\n## ")) {
            int end = part.indexOf('\n');
            String body = part.substring(Math.max(end, 0));
            if (part.startsWith("Description")) {
                int examples = body.indexOf("Examples:");
                int constants = body.indexOf("The constants:");
                found.put("Description", sentences(body.substring(0, examples)));
                found.put("The constants", sentences(body.substring(constants, body.indexOf("The constructor and"))));
            } else {
                found.put(part.substring(0, Math.max(end, 0)), sentences(body));
            }
        }
        return found;
    }

    private static List<String> sentences(String body) {
        List<String> found = new ArrayList<>();
        for (String paragraph : body.split("\n\\s*\n|\n(?=- )")) {
            String line = paragraph.trim().replaceAll("\\s+", " ");
            if (line.startsWith("- ")) {
                found.add(line.substring(2));
            } else if (!line.isEmpty() && !line.startsWith("`") && !line.equals("The constants:")) {
                String[] parts = line.replaceFirst("^[A-Z][a-z]+( [a-z]+)?\\. ", "").split("(?<=[.;]|\\.\\)) ");
                found.addAll(List.of(parts));
            }
        }
        return found;
    }

    private static void section(String name) {
        section = name;
        sentence = "";
        if (!document.containsKey(name)) {
            fault("the document has no section " + name);
        }
    }

    /** The tests that follow are for this sentence of the section. */
    private static void says(String text) {
        sentence = text;
        List<String> all = document.getOrDefault(section, List.of());
        if (!all.contains(text)) {
            fault("the section does not say this");
        }
        named.computeIfAbsent(section, key -> new ArrayList<>()).add(text);
    }

    private static void everySentenceIsNamed() {
        for (Map.Entry<String, List<String>> entry : document.entrySet()) {
            boolean isChecked = entry.getKey().matches("Promise.*|Description|The constants");
            section = entry.getKey();
            for (String text : isChecked ? entry.getValue() : List.<String>of()) {
                sentence = text;
                boolean namesNoBound = text.startsWith("`") && !text.matches(".*[0-9].*|.*not below.*");
                if (!namesNoBound && !named.getOrDefault(section, List.of()).contains(text)) {
                    fault("no test is for this sentence");
                }
            }
        }
        if (document.size() < 45) {
            fault("the document has " + document.size() + " sections only");
        }
    }

    // Looking at answers and states

    private static void fault(String text) {
        wrong++;
        System.out.println(section + ": \"" + sentence + "\": " + text);
    }

    private static void due(String call, long got, long want) {
        if (got != want) {
            fault(call + " answered " + got + ", due is " + want);
        }
    }

    private static void due(String call, String got, String want) {
        if (!got.equals(want)) {
            fault(call + " showed " + got + ", due is " + want);
        }
    }

    private static PatternLanguages type(PatternLanguages x, String text) {
        for (int i = 0; i < text.length(); i++) {
            x.append(text.charAt(i), 1);
        }
        return x;
    }

    private static PatternLanguages with(int letters, String... patterns) {
        PatternLanguages x = new PatternLanguages();
        x.reset(letters);
        for (int i = 0; i < patterns.length; i++) {
            type(x, patterns[i]).setPattern(i);
        }
        return x;
    }

    private static PatternLanguages withSample(int letters, String... words) {
        PatternLanguages x = new PatternLanguages();
        x.reset(letters);
        addWords(x, words);
        return x;
    }

    private static void addWords(PatternLanguages x, String... words) {
        for (String word : words) {
            type(x, word).addWord();
        }
    }

    private static void fill(PatternLanguages x, int slot, int type, long... values) {
        x.allocate(slot, type, values.length);
        for (int i = 0; i < values.length; i++) {
            x.putElement(slot, i, values[i]);
        }
    }

    private static void fillChars(PatternLanguages x, int slot, String text) {
        x.allocate(slot, 1, text.length());
        for (int i = 0; i < text.length(); i++) {
            x.putElement(slot, i, text.charAt(i));
        }
    }

    private static String pattern(PatternLanguages x, int register) {
        StringBuilder text = new StringBuilder();
        int length = x.length(register);
        for (int i = 0; i < length; i++) {
            int code = x.symbol(register, i);
            text.append(code >= 10 && code < 14 ? "XYZW".charAt(code - 10) : code < 0 ? '?' : (char) ('a' + code));
        }
        return text.toString();
    }

    private static String image(PatternLanguages x, int variable) {
        StringBuilder text = new StringBuilder();
        int letter = x.imageLetter(variable, 0);
        for (int i = 1; letter >= 0 && i <= 9; i++) {
            text.append((char) ('a' + letter));
            letter = x.imageLetter(variable, i);
        }
        return text.toString();
    }

    private static String sample(PatternLanguages x) {
        StringBuilder text = new StringBuilder();
        int size = x.sampleSize();
        for (int i = 0; i < size; i++) {
            text.append(i == 0 ? "" : ",");
            for (long code = x.sampleCode(i); code > 0; code /= 4) {
                text.append((char) ('a' + code % 4 - 1));
            }
        }
        return text.toString();
    }

    private static String elements(PatternLanguages x, int slot) {
        StringBuilder text = new StringBuilder();
        long element = x.element(slot, 0);
        for (int i = 1; element != NO_VALUE && i <= 41; i++) {
            text.append(element).append(' ');
            element = x.element(slot, i);
        }
        return text.toString().trim();
    }

    private static long code(String word) {
        long code = 0;
        for (int i = word.length() - 1; i >= 0; i--) {
            code = code * 4 + (word.charAt(i) - 'a' + 1);
        }
        return code;
    }

    private static String bench(PatternLanguages x) {
        StringBuilder text = new StringBuilder("letters ").append(x.letters()).append(", registers");
        for (int r = 0; r < 6; r++) {
            text.append(' ').append(pattern(x, r));
        }
        text.append(", images");
        for (int v = 0; v < 4; v++) {
            text.append(" '").append(image(x, v)).append('\'');
        }
        return text.append(", sample '").append(sample(x)).append('\'').toString();
    }

    /** All that can be seen of an object, which is used up by it: the buffer is read, the snapshot restored. */
    private static String state(PatternLanguages x) {
        StringBuilder text = new StringBuilder(bench(x));
        for (int slot = 0; slot < 4; slot++) {
            text.append(", slot ").append(elements(x, slot));
        }
        text.append("; buffer ").append(x.setImage(0)).append(' ').append(image(x, 0));
        for (int slot = 0; slot < 4; slot++) {
            text.append("; release ").append(x.release(slot));
        }
        return text.append("; restore ").append(x.restore()).append(' ').append(bench(x)).toString();
    }

    /** A bench on which nothing is as on a new one, so that any change shows; the buffer is empty. */
    private static PatternLanguages scene() {
        PatternLanguages x = with(2, "Y", "bXa");
        type(x, "b").setImage(2);
        type(x, "ba").addWord();
        x.snapshot();
        x.reset(3);
        String[] patterns = {"cXbY", "XYZW", "abc", "XXXXX", "aXYZ", "XX"};
        for (int r = 0; r < patterns.length; r++) {
            type(x, patterns[r]).setPattern(r);
        }
        String[] images = {"b", "", "ca", "ab"};
        for (int v = 0; v < images.length; v++) {
            type(x, images[v]).setImage(v);
        }
        addWords(x, "cab", "", "abc");
        fill(x, 0, 0, 1, -2);
        fill(x, 1, 1, 'X', 'c', 'X');
        fill(x, 2, 2, 7);
        return x;
    }

    private static void nothing(PatternLanguages x) {
    }

    /** The call answers as wanted and changes nothing, not even the buffer. */
    private static void refused(Consumer<PatternLanguages> first, String call, long want,
            ToLongFunction<PatternLanguages> act) {
        PatternLanguages x = scene();
        PatternLanguages same = scene();
        first.accept(x);
        first.accept(same);
        type(x, "ab");
        type(same, "ab");
        due(call, act.applyAsLong(x), want);
        due("the state after " + call, state(x), state(same));
    }

    private static void refused(String call, long want, ToLongFunction<PatternLanguages> act) {
        refused(BoundaryTest::nothing, call, want, act);
    }

    /** The call answers as wanted and changes nothing but the buffer, which it empties. */
    private static void refusedReading(Consumer<PatternLanguages> first, String text, String call, long want,
            ToLongFunction<PatternLanguages> act) {
        PatternLanguages x = scene();
        PatternLanguages same = scene();
        first.accept(x);
        first.accept(same);
        type(x, text);
        due(call + " of '" + text + "'", act.applyAsLong(x), want);
        due("the state after " + call + " of '" + text + "'", state(x), state(same));
    }

    private static void refusedReading(String text, String call, long want, ToLongFunction<PatternLanguages> act) {
        refusedReading(BoundaryTest::nothing, text, call, want, act);
    }

    /** A call with one number left open. */
    private interface Open {
        long on(PatternLanguages x, int number);
    }

    private static void refusedFor(int[] numbers, String call, long want, Open act) {
        for (int number : numbers) {
            refused(call + " with " + number, want, x -> act.on(x, number));
        }
    }

    private static void refusedReadingFor(int[] numbers, String text, String call, long want, Open act) {
        for (int number : numbers) {
            refusedReading(text, call + " with " + number, want, x -> act.on(x, number));
        }
    }

    /** The lowest and the highest number that are taken. */
    private static void taken(int lowest, int highest, String text, String call, long want, Open act) {
        for (int number : new int[] {lowest, highest}) {
            due(call + " with " + number, act.on(type(scene(), text), number), want);
        }
    }

    // Description

    private static void calls512() {
        section("What it is");
        says("An object is used for at most 512 calls after it has been made;");
        PatternLanguages x = withSample(3, FIVE_COLUMNS);
        type(x, "XYZWWZYX").setPattern(0);
        int made = 1 + 6 * 6 + 9;
        for (int call = made + 1; call < 510; call += 2) {
            due("call " + call, x.findPattern(1, 5, 0), -6);
            due("call " + (call + 1), x.difference(0, 0, 1, 6), NO_VALUE);
        }
        due("call 511", x.length(0), 8);
        due("call 512", x.sampleCode(5), code("aaaab"));
    }

    private static void words() {
        section("Description");
        says("The alphabet has k letters, 1 to 3, written a, b, c and numbered 0, 1, 2.");
        PatternLanguages x = new PatternLanguages();
        due("reset(0)", x.reset(0), -1);
        due("reset(4)", x.reset(4), -1);
        due("reset(3)", x.reset(3), 2);
        due("setPattern of abc", type(x, "abc").setPattern(0), 3);
        for (int i = 0; i < 3; i++) {
            due("symbol(0, " + i + ")", x.symbol(0, i), i);
        }
        due("the character behind c", type(x, "d").setPattern(0), -5);
        due("the character before a", type(x, "`").setPattern(0), -5);

        says("A word is a sequence of at most 8 letters;");
        x = new PatternLanguages();
        due("addWord() of 8 letters", type(x, "abababab").addWord(), 1);
        due("addWord() of 9 letters", type(x, "ababababa").addWord(), -5);
        due("the sample", sample(x), "abababab");

        says("it may be empty.");
        x = new PatternLanguages();
        due("addWord() of no letters", x.addWord(), 1);
        due("sampleCode(0)", x.sampleCode(0), 0);

        says("Words are ordered by their lengths, shorter words first;");
        x = with(2, "X", "a");
        due("difference of X and a, b before aa", x.difference(0, 1, 0, 6), code("b"));

        says("words of equal length are ordered alphabetically.");
        x = with(2, "XY", "XX");
        due("difference of XY and XX, ab before ba", x.difference(0, 1, 0, 6), code("ab"));
        x = with(3, "cXa", "caa");
        due("difference of cXa and caa, cba before cca", x.difference(0, 1, 0, 6), code("cba"));
    }

    private static void patterns() {
        says("A pattern is a sequence of 1 to 8 symbols.");
        PatternLanguages x = new PatternLanguages();
        due("setPattern of no symbols", x.setPattern(0), -5);
        due("setPattern of 1 symbol", type(x, "a").setPattern(0), 1);
        due("setPattern of 8 symbols", type(x, "aXaXaXaX").setPattern(0), 8);
        due("setPattern of 9 symbols", type(x, "aXaXaXaXa").setPattern(0), -5);
        due("register 0", pattern(x, 0), "aXaXaXaX");

        says("A symbol is a letter or a variable.");
        for (int character = 0; character < 128; character++) {
            x = new PatternLanguages();
            x.append(character, 1);
            due("setPattern of byte " + character, x.setPattern(0), "abXYZW".indexOf(character) >= 0 ? 1 : -5);
        }

        says("Variables are written X, Y, Z and W and numbered 0, 1, 2 and 3.");
        x = with(2, "XYYZZZWW");
        int[] uses = {1, 2, 3, 2};
        for (int v = 0; v < 4; v++) {
            due("occurrences(0, " + v + ")", x.occurrences(0, v), uses[v]);
        }
        due("occurrences(0, 4)", x.occurrences(0, 4), -3);
        due("occurrences(0, -1)", x.occurrences(0, -1), -3);

        says("A pattern is always kept in canonical form: its variables are renamed so that the first variable that"
                + " occurs in it is X, the next new one is Y, then Z, then W.");
        x = with(2, "WaZYWX", "W", "bYYX", "aXWa");
        due("register 0", pattern(x, 0), "XaYZXW");
        due("register 1", pattern(x, 1), "X");
        due("register 2", pattern(x, 2), "bXXY");
        due("register 3", pattern(x, 3), "aXYa");

        says("The code of a symbol is its number for a letter, and 10 plus its number for a variable.");
        x = with(3, "aWcYbXZ");
        int[] codes = {0, 10, 2, 11, 1, 12, 13};
        for (int i = 0; i < codes.length; i++) {
            due("symbol(0, " + i + ")", x.symbol(0, i), codes[i]);
        }
    }

    private static void modes() {
        says("A substitution assigns a word to each variable of a pattern;");
        PatternLanguages x = with(2, "XYZW", "ab");
        due("match of XYZW on abba", type(x, "abba").match(0, 0), 1);
        due("the images", image(x, 0) + image(x, 1) + image(x, 2) + image(x, 3), "abba");
        due("match of ab, without variables", type(x, "ab").match(1, 0), 0);

        says("the word that it produces is the pattern with each variable replaced by its word.");
        x = with(2, "aXbYX");
        type(x, "bb").setImage(0);
        x.setImage(1);
        x.addProduced(0);
        due("the word of aXbYX", sample(x), "abbbbb");

        says("There are two modes: in mode 0 (non-erasing) the words of all variables have at least one letter, in mode"
                + " 1 (erasing) they may be empty.");
        x = with(2, "aXYb");
        due("matches of ab in mode 0", type(x, "ab").matches(0, 0), 0);
        due("matches of aab in mode 0", type(x, "aab").matches(0, 0), 0);
        due("matches of aabb in mode 0", type(x, "aabb").matches(0, 0), 1);
        due("matches of ab in mode 1", type(x, "ab").matches(0, 1), 1);
        due("matches of b in mode 1", type(x, "b").matches(0, 1), 0);
        due("matches in mode 2", type(x, "ab").matches(0, 2), -1);
        due("matches in mode -1", type(x, "ab").matches(0, -1), -1);
    }

    private static void matchesOfWords() {
        says("A pattern matches a word in a mode if some substitution of this mode produces the word.");
        PatternLanguages x = with(2, "XX", "XXXXXXXX");
        due("XX on abab", type(x, "abab").matches(0, 0), 1);
        due("XX on abba", type(x, "abba").matches(0, 0), 0);
        due("XX on the empty word, mode 1", x.matches(0, 1), 1);
        due("XX on the empty word, mode 0", x.matches(0, 0), 0);
        due("XXXXXXXX on 8 letters", type(x, "bbbbbbbb").matches(1, 0), 1);
        due("XXXXXXXX on 7 letters", type(x, "bbbbbbb").matches(1, 0), 0);

        says("The language of a pattern in a mode is the set of the words that it matches.");
        x = with(2, "XY");
        due("countWords, a word of two matches counts once", x.countWords(0, 0, 3), 8);
        due("countWords of length 1, mode 0", x.countWords(0, 0, 1), 0);
        due("countWords of length 1, mode 1", x.countWords(0, 1, 1), 2);

        says("A match of a word is a substitution that produces it;");
        x = with(2, "ab", "XYZW");
        due("matchCount of ab on ab", type(x, "ab").matchCount(0, 0), 1);
        due("matchCount of ab on ba", type(x, "ba").matchCount(0, 0), 0);
        due("matchCount of XYZW on 8 letters, mode 1", type(x, "aaaaaaaa").matchCount(1, 1), 165);
        due("matchCount of XYZW on the empty word, mode 1", x.matchCount(1, 1), 1);
        due("matchCount of XYZW on 3 letters, mode 0", type(x, "aaa").matchCount(1, 0), 0);

        says("matches are ordered lexicographically by the lengths of the words of X, Y, Z and W, in this order.");
        x = with(2, "XYZW", "XYYX");
        type(x, "aabbabab").match(0, 0);
        due("the first match of XYZW", image(x, 0) + "," + image(x, 1) + "," + image(x, 2) + "," + image(x, 3),
                "a,a,b,babab");
        due("the first match of XYYX on aaaaaaaa", type(x, "aaaaaaaa").match(1, 0), 1);
        due("the images", image(x, 0) + "," + image(x, 1), "a,aaa");
        due("the first match of XYYX on aaaaaaaa, mode 1", type(x, "aaaaaaaa").match(1, 1), 0);
        due("the images", image(x, 0) + "," + image(x, 1), ",aaaa");
    }

    private static void general(String p, String q, int mode, int want) {
        due(p + " over " + q + " in mode " + mode, with(3, p, q).isMoreGeneral(0, 1, mode), want);
    }

    private static void generalPatterns() {
        says("A pattern p is at least as general as a pattern q in a mode if q can be produced from p by replacing each"
                + " variable of p by a sequence of symbols (letters, and variables of q), the same sequence at each"
                + " occurrence;");
        general("XX", "aYaY", 0, 1);
        general("XX", "aXaY", 0, 0);
        general("XX", "XaX", 1, 0);
        general("XbX", "aYWbaYW", 0, 1);

        says("in mode 0 the sequences are not empty.");
        general("XYZW", "abc", 0, 0);
        general("XYZW", "abc", 1, 1);
        general("XYZW", "abca", 0, 1);
        general("aXb", "ab", 0, 0);
        general("aXb", "ab", 1, 1);

        says("(Here the variables of q are treated like letters.)");
        general("ab", "aX", 1, 0);
        general("aX", "X", 1, 0);
        general("XY", "YX", 0, 1);
        general("XYX", "XYY", 0, 0);

        says("Two patterns are equivalent in a mode if each is at least as general as the other.");
        PatternLanguages x = with(2, "XY", "XYZ");
        due("chainBreak of XY, XYZ in mode 1, equivalent", x.chainBreak(0, 1, 1), 0);
        due("chainBreak of XY, XYZ in mode 0, a chain", x.chainBreak(0, 1, 0), -6);
    }

    private static void registersAndSample() {
        says("There are six registers, numbered 0 to 5.");
        PatternLanguages x = new PatternLanguages();
        for (int r = 0; r < 6; r++) {
            due("setPattern(" + r + ")", type(x, "aaaaaa".substring(r)).setPattern(r), 6 - r);
        }
        for (int r = 0; r < 6; r++) {
            due("length(" + r + ")", x.length(r), 6 - r);
        }
        due("length(6)", x.length(6), -2);
        due("length(-1)", x.length(-1), -2);

        says("Each holds a pattern, initially the pattern X.");
        x = new PatternLanguages();
        for (int r = 0; r < 6; r++) {
            due("register " + r, pattern(x, r), "X");
        }

        says("The sample is a list of up to 6 words, initially empty.");
        x = new PatternLanguages();
        due("sampleSize()", x.sampleSize(), 0);
        for (int i = 1; i <= 6; i++) {
            due("addWord()", x.addWord(), i);
        }
        due("a seventh addWord()", x.addWord(), -4);
        due("sampleSize()", x.sampleSize(), 6);

        says("A pattern fits the sample in a mode if it matches all words of the sample.");
        x = withSample(2, "a", "a", "a", "a", "a", "b");
        type(x, "a").setPattern(1);
        due("firstMisfit of X", x.firstMisfit(0, 0), -6);
        due("firstMisfit of a, the last of six words", x.firstMisfit(1, 0), 5);
        x.removeWord(5);
        due("firstMisfit of a, without that word", x.firstMisfit(1, 0), -6);

        says("Each variable has an image, a word, initially the word a.");
        x = new PatternLanguages();
        for (int v = 0; v < 4; v++) {
            due("imageLetter(" + v + ", 0)", x.imageLetter(v, 0), 0);
            due("imageLetter(" + v + ", 1)", x.imageLetter(v, 1), -6);
        }
        due("imageLetter(4, 0)", x.imageLetter(4, 0), -3);
    }

    private static void better(String first, String second) {
        PatternLanguages x = with(3, first, second);
        due(first + " against " + second, x.compareQuality(0, 1), 2);
        due(second + " against " + first, x.compareQuality(1, 0), 0);
    }

    private static void betterPatterns() {
        says("Of two patterns of equal length, the one with more letters is better;");
        better("cX", "XX");
        better("ccccccXY", "aaaaaXXX");
        better("c", "X");

        says("if they have the same number of letters, the one with fewer different variables;");
        better("cXX", "aXY");
        better("XXXXXXXX", "XXXXXXXY");
        better("XYZXYZX", "XXXXYZW");

        says("if these are equal, too, the one whose sequence of symbol codes is lexicographically smaller.");
        better("aaaaaaaa", "aaaaaaab");
        better("cX", "Xa");
        better("XXY", "XYX");
        better("XYXY", "XYYX");
        due("equal codes", with(2, "aXbY", "aWbZ").compareQuality(0, 1), 1);
    }

    private static void inputBuffer() {
        says("The input buffer holds up to 20 bytes, each 0 to 127.");
        PatternLanguages x = new PatternLanguages();
        due("append(0, 1)", x.append(0, 1), 1);
        due("append(127, 19)", x.append(127, 19), 20);
        due("append(97, 1), the 21st byte", x.append(97, 1), -4);
        x.clearInput();
        due("append(-1, 1)", x.append(-1, 1), -1);
        due("append(128, 1)", x.append(128, 1), -1);
        due("clearInput()", x.clearInput(), 0);

        says("The methods that read it consume its content, even if they return an error code.");
        consumed("setPattern", PatternLanguages::setPattern, 0, -1, 6);
        consumed("transform", PatternLanguages::transform, 0, -1, 6);
        consumed("matches", (y, r) -> y.matches(r, 0), 0, -1, 6);
        consumed("matchCount", (y, r) -> y.matchCount(r, 0), 0, -1, 6);
        consumed("match", (y, r) -> y.match(r, 0), 0, -1, 6);
        consumed("matches, mode", (y, mode) -> y.matches(0, mode), 0, 1, 2, -1);
        consumed("matchCount, mode", (y, mode) -> y.matchCount(0, mode), 0, 1, 2, -1);
        consumed("match, mode", (y, mode) -> y.match(0, mode), 0, 1, 2, -1);
        consumed("setImage", PatternLanguages::setImage, 0, 3, 4, -1);
        consumed("addWord", (y, none) -> y.addWord(), 0);

        says("A text is a word if it consists of 0 to 8 letters of the alphabet;");
        x = new PatternLanguages();
        due("setImage of 0 letters", x.setImage(0), 0);
        due("setImage of 8 letters", type(x, "babababa").setImage(0), 8);
        due("setImage of 9 letters", type(x, "babababab").setImage(0), -5);
        due("setImage of a letter beyond the alphabet", type(x, "bac").setImage(0), -5);
        due("the image", image(x, 0), "babababa");

        says("it is a pattern if it consists of 1 to 8 letters of the alphabet and the characters X, Y, Z and W.");
        due("setPattern of 0 characters", x.setPattern(0), -5);
        due("setPattern of 1 character", type(x, "W").setPattern(0), 1);
        due("setPattern of 8 characters", type(x, "aXbYaZbW").setPattern(0), 8);
        due("setPattern of 9 characters", type(x, "aXbYaZbWa").setPattern(0), -5);
        due("setPattern of a letter beyond the alphabet", type(x, "Xc").setPattern(0), -5);
        due("register 0", pattern(x, 0), "aXbYaZbW");
    }

    /** Whether each text is gone, be it what the method needs or not. */
    private static void consumed(String call, Open act, int... numbers) {
        for (int number : numbers) {
            for (String text : new String[] {"ab", "aX", "swap", "?", "aaaaaaaaaaaaaaaaaaaa"}) {
                PatternLanguages x = type(scene(), text);
                act.on(x, number);
                due("clearInput() after " + call + " with " + number + " on '" + text + "'", x.clearInput(), 0);
            }
        }
    }

    private static void slots() {
        says("There are four array slots, numbered 0 to 3.");
        PatternLanguages x = new PatternLanguages();
        for (int slot = 0; slot < 4; slot++) {
            fill(x, slot, 2, 5 + slot);
        }
        for (int slot = 0; slot < 4; slot++) {
            due("element(" + slot + ", 0)", x.element(slot, 0), 5 + slot);
        }
        due("allocate(4, 2, 1)", x.allocate(4, 2, 1), -1);
        due("allocate(-1, 2, 1)", x.allocate(-1, 2, 1), -1);

        says("A slot is empty, or holds an array of bytes, chars, ints or booleans with at most 40 elements.");
        x = new PatternLanguages();
        due("release(0), empty", x.release(0), 0);
        for (int type = 0; type < 4; type++) {
            due("allocate of type " + type, x.allocate(type, type, 40), 40);
            due("putElement of the last element", x.putElement(type, 39, 1), 1);
            due("putElement behind it", x.putElement(type, 40, 1), -13);
            due("allocate of 41 elements", x.allocate(type, type, 41), -1);
        }
        due("allocate of type 4", x.allocate(0, 4, 1), -1);

        says("All slots are initially empty.");
        x = new PatternLanguages();
        for (int slot = 0; slot < 4; slot++) {
            due("putElement(" + slot + ", 0, 1)", x.putElement(slot, 0, 1), -11);
            due("release(" + slot + ")", x.release(slot), 0);
        }
    }

    private static void newWorkbench() {
        says("A new workbench has 2 letters;");
        due("letters()", new PatternLanguages().letters(), 2);
        due("setPattern of b", type(new PatternLanguages(), "b").setPattern(0), 1);
        due("setPattern of c", type(new PatternLanguages(), "c").setPattern(0), -5);

        says("the sample and the input buffer are empty;");
        due("sampleSize()", new PatternLanguages().sampleSize(), 0);
        due("sampleCode(0)", new PatternLanguages().sampleCode(0), NO_VALUE);
        due("clearInput()", new PatternLanguages().clearInput(), 0);

        says("there is no snapshot.");
        due("restore()", new PatternLanguages().restore(), -6);
    }

    // The details at the description's end

    private static void details() {
        section("Description");
        says("Without words in the sample, every pattern fits it.");
        PatternLanguages x = with(2, "aaaaaaaa", "XYZWXYZW");
        due("firstMisfit of aaaaaaaa", x.firstMisfit(0, 0), -6);
        due("firstMisfit of XYZWXYZW", x.firstMisfit(1, 0), -6);
        due("findPattern(2, 5, 0)", x.findPattern(2, 5, 0), 5);
        due("findPattern(2, 1, 1)", x.findPattern(2, 1, 1), 1);
        due("findOneVariable(2)", x.findOneVariable(2), 7);
        due("register 2", pattern(x, 2), "aaaaaaX");

        says("When letters become a variable, this is X, which is the first variable of the pattern if it has one, and"
                + " the pattern is made canonical then.");
        change(2, "aXbY", "forget", "XXXY");
        change(2, "bYaXW", "forget", "XXXYZ");
        change(2, "ba", "forget", "XX");

        says("A word that tells a change must be the whole content of the buffer.");
        for (String word : new String[] {"reverse", "swap", "drop", "collapse", "forget"}) {
            for (String text : new String[] {word + "a", "a" + word, word + word, word + " ", word + "\0",
                word.substring(1), word.substring(0, word.length() - 1)}) {
                refusedReading(text, "transform(0)", -5, y -> y.transform(0));
            }
        }

        says("Images stay with their numbers when variables are renamed.");
        x = with(2, "XaY");
        type(x, "b").setImage(0);
        type(x, "bb").setImage(1);
        x.replace(0, 0, 0);
        due("the images after a replacement of X", image(x, 0) + "," + image(x, 1), "b,bb");
        x.addProduced(0);
        due("the word of aaX, where X was Y", sample(x), "aab");
        x = with(2, "XaY");
        type(x, "bbb").setImage(0);
        type(x, "reverse").transform(0);
        x.addProduced(0);
        due("the word of a reversed pattern", sample(x), "bbbaa");

        says("The buffer is consumed also if there is no such register.");
        consumed("setPattern", PatternLanguages::setPattern, NO_REGISTERS);
        consumed("transform", PatternLanguages::transform, NO_REGISTERS);
        consumed("matches", (y, r) -> y.matches(r, 0), NO_REGISTERS);
        consumed("matchCount", (y, r) -> y.matchCount(r, 1), NO_REGISTERS);
        consumed("match", (y, r) -> y.match(r, 9), NO_REGISTERS);

        says("By replacing variables, patterns of any length can be produced.");
        general("X", "abcXYZWX", 0, 1);
        general("X", "abcXYZWX", 1, 1);
        general("aXYb", "aaaaaaab", 0, 1);
        general("XYZWXYZW", "a", 1, 0);
        general("XYZWaXYZ", "a", 1, 1);
        general("XYZWZYXZ", "bb", 1, 1);

        says("The input buffer and the arrays stay at a restore.");
        x = scene();
        type(x, "ba");
        x.putElement(2, 0, 99);
        x.allocate(3, 3, 0);
        x.release(0);
        due("restore()", x.restore(), 1);
        due("setImage(3)", x.setImage(3), 2);
        due("the image, from the buffer", image(x, 3), "ba");
        due("element(2, 0)", x.element(2, 0), 99);
        due("release(3)", x.release(3), 1);
        due("release(0)", x.release(0), 0);
        due("the slot of chars", elements(x, 1), "88 99 88");

        says("Empty arrays, and those with more elements than a pattern has, are no patterns.");
        for (int size : new int[] {0, 9, 40}) {
            refused(y -> fillChars(y, 3, "a".repeat(size)), "loadPattern of " + size, -5, y -> y.loadPattern(0, 3));
        }
        for (int size : new int[] {1, 8}) {
            x = new PatternLanguages();
            fillChars(x, 3, "a".repeat(size));
            due("loadPattern of " + size, x.loadPattern(0, 3), size);
        }
    }

    private static void constants() {
        section("The constants");
        says("`BAD_ARGUMENT = -1`: An argument is out of range, and no more specific error code applies.");
        due("BAD_ARGUMENT", PatternLanguages.BAD_ARGUMENT, -1);
        due("reset(4)", new PatternLanguages().reset(4), -1);
        due("allocate(0, 0, -1), a more specific one", new PatternLanguages().allocate(0, 0, -1), -14);
        says("`NO_SUCH_REGISTER = -2`: A register number is not from 0 to 5.");
        due("NO_SUCH_REGISTER", PatternLanguages.NO_SUCH_REGISTER, -2);
        due("length(5)", new PatternLanguages().length(5), 1);
        due("length(6)", new PatternLanguages().length(6), -2);
        due("length(0)", new PatternLanguages().length(0), 1);
        due("length(-1)", new PatternLanguages().length(-1), -2);
        says("`NO_SUCH_VARIABLE = -3`: The pattern has no such variable.");
        due("NO_SUCH_VARIABLE", PatternLanguages.NO_SUCH_VARIABLE, -3);
        due("split(0, 1)", new PatternLanguages().split(0, 1), -3);
        says("`FULL = -4`: There is no room, or the result would be too long.");
        due("FULL", PatternLanguages.FULL, -4);
        due("split of XXXXX", with(2, "XXXXX").split(0, 0), -4);
        says("`BAD_INPUT = -5`: The input buffer does not hold what the method needs.");
        due("BAD_INPUT", PatternLanguages.BAD_INPUT, -5);
        due("setPattern(0)", new PatternLanguages().setPattern(0), -5);
        says("`NONE = -6`: There is no such element, or no result.");
        due("NONE", PatternLanguages.NONE, -6);
        due("symbol(0, 1)", new PatternLanguages().symbol(0, 1), -6);
        due("restore()", new PatternLanguages().restore(), -6);
        says("`EMPTY_SLOT = -11`: The array slot is empty.");
        due("EMPTY_SLOT", PatternLanguages.EMPTY_SLOT, -11);
        due("putElement(0, 0, 0)", new PatternLanguages().putElement(0, 0, 0), -11);
        says("`WRONG_TYPE = -12`: The array has another element type than required.");
        due("WRONG_TYPE", PatternLanguages.WRONG_TYPE, -12);
        due("loadPattern(0, 0) of bytes", scene().loadPattern(0, 0), -12);
        says("`INDEX_OUT_OF_RANGE = -13`: An array index is out of range.");
        due("INDEX_OUT_OF_RANGE", PatternLanguages.INDEX_OUT_OF_RANGE, -13);
        due("putElement(0, 2, 0)", scene().putElement(0, 2, 0), -13);
        says("`NEGATIVE_SIZE = -14`: An array size is negative.");
        due("NEGATIVE_SIZE", PatternLanguages.NEGATIVE_SIZE, -14);
        due("allocate(0, 0, 0)", new PatternLanguages().allocate(0, 0, 0), 0);
        due("allocate(0, 0, -1)", new PatternLanguages().allocate(0, 0, -1), -14);
        says("`NO_VALUE = Long.MIN_VALUE`: Returned by methods of type long if an argument is invalid.");
        due("NO_VALUE", PatternLanguages.NO_VALUE, Long.MIN_VALUE);
        due("sampleCode(0)", new PatternLanguages().sampleCode(0), Long.MIN_VALUE);
        due("element(0, 0)", new PatternLanguages().element(0, 0), Long.MIN_VALUE);
        due("difference(0, 0, 2, 0)", new PatternLanguages().difference(0, 0, 2, 0), Long.MIN_VALUE);
    }

    // The bench and the input buffer

    private static void newObject() {
        section("Promise 1: A new object");
        says("Creates a workbench with 2 letters.");
        PatternLanguages x = new PatternLanguages();
        due("letters()", x.letters(), 2);
        due("addWord() of b", type(x, "b").addWord(), 1);
        due("addWord() of c", type(x, "c").addWord(), -5);
        due("replace(0, 0, 2)", x.replace(0, 0, 2), -1);
        due("countWords(0, 0, 6)", x.countWords(0, 0, 6), 64);
    }

    private static void reset() {
        section("Promise 2: reset");
        says("Sets the size of the alphabet.");
        for (int k = 1; k <= 3; k++) {
            PatternLanguages x = new PatternLanguages();
            x.reset(k);
            due("letters() after reset(" + k + ")", x.letters(), k);
            due("addWord() of the last letter", type(x, "abc".substring(k - 1, k)).addWord(), 1);
            due("addWord() of the one behind it", type(x, "abcd".substring(k, k + 1)).addWord(), -5);
        }

        says("All registers become the pattern X, all images the word a, and the sample becomes empty.");
        PatternLanguages x = scene();
        x.reset(3);
        due("the bench", bench(x), "letters 3, registers X X X X X X, images 'a' 'a' 'a' 'a', sample ''");
        due("sampleSize()", x.sampleSize(), 0);
        due("sampleCode(0)", x.sampleCode(0), NO_VALUE);

        says("The input buffer, the array slots and the snapshot stay.");
        x = scene();
        type(x, "b");
        x.reset(2);
        due("addWord() from the buffer", x.addWord(), 1);
        due("the sample", sample(x), "b");
        due("the slots", elements(x, 0) + "," + elements(x, 1) + "," + elements(x, 2), "1 -2,88 99 88,7");
        due("release(3)", x.release(3), 0);
        due("restore()", x.restore(), 1);
        due("register 1", pattern(x, 1), "bXa");

        says("`letters`: the number of letters, 1 to 3");
        due("reset(1)", new PatternLanguages().reset(1), 2);
        due("reset(3)", new PatternLanguages().reset(3), 2);
        due("reset(0)", new PatternLanguages().reset(0), -1);
        due("reset(4)", new PatternLanguages().reset(4), -1);

        says("Returns the previous number of letters;");
        x = new PatternLanguages();
        due("reset(3)", x.reset(3), 2);
        due("reset(1)", x.reset(1), 3);
        due("reset(1)", x.reset(1), 1);

        says("BAD_ARGUMENT if the number is out of range.");
        refusedFor(new int[] {0, 4, -1, MIN, MAX}, "reset", -1, PatternLanguages::reset);
    }

    private static void letters() {
        section("Promise 3: letters");
        says("Returns the number of letters.");
        due("letters()", new PatternLanguages().letters(), 2);
        says("Returns k.");
        for (int k = 1; k <= 3; k++) {
            due("letters()", with(k).letters(), k);
        }
        PatternLanguages x = with(1);
        x.reset(0);
        x.reset(4);
        due("letters() after refusals", x.letters(), 1);
    }

    private static void append() {
        section("Promise 4: append");
        says("Appends a byte to the input buffer one or more times.");
        PatternLanguages x = new PatternLanguages();
        x.append('a', 1);
        x.append('b', 7);
        x.addWord();
        due("the word", sample(x), "abbbbbbb");

        says("`value`: the byte, 0 to 127");
        due("append(0, 1)", new PatternLanguages().append(0, 1), 1);
        due("append(127, 1)", new PatternLanguages().append(127, 1), 1);
        due("append(-1, 1)", new PatternLanguages().append(-1, 1), -1);
        due("append(128, 1)", new PatternLanguages().append(128, 1), -1);

        says("`count`: how often it is appended, 1 to 20");
        due("append(97, 1)", new PatternLanguages().append(97, 1), 1);
        due("append(97, 20)", new PatternLanguages().append(97, 20), 20);
        due("append(97, 0)", new PatternLanguages().append(97, 0), -1);
        due("append(97, 21)", new PatternLanguages().append(97, 21), -1);

        says("Returns the number of bytes in the input buffer;");
        x = new PatternLanguages();
        due("append(97, 3)", x.append(97, 3), 3);
        due("append(98, 17)", x.append(98, 17), 20);

        says("BAD_ARGUMENT if an argument is out of range (checked first);");
        refusedFor(new int[] {-1, 128, MIN, MAX, 97 + 256}, "append of a byte", -1, (y, value) -> y.append(value, 1));
        refusedFor(new int[] {0, -1, 21, MIN, MAX}, "append so often", -1, (y, count) -> y.append('a', count));
        x = new PatternLanguages();
        x.append('a', 20);
        due("append(128, 1) to a full buffer", x.append(128, 1), -1);
        due("append(97, 0) to a full buffer", x.append(97, 0), -1);
        due("append(97, 21) to a full buffer", x.append(97, 21), -1);
        due("append(97, MAX) to a full buffer", x.append(97, MAX), -1);
        due("clearInput()", x.clearInput(), 20);

        says("FULL if the buffer would hold more than 20 bytes, in which case nothing is appended.");
        refusedFor(new int[] {19, 20}, "append to 2 bytes", -4, (y, count) -> y.append('a', count));
        x = type(new PatternLanguages(), "ab");
        due("append(97, 18), just room", x.append(97, 18), 20);
        due("append(97, 1), a full buffer", x.append(97, 1), -4);
        due("append(97, 20), a full buffer", x.append(97, 20), -4);
        due("clearInput()", x.clearInput(), 20);
        x = type(new PatternLanguages(), "babababa");
        due("append(97, 13)", x.append(97, 13), -4);
        due("addWord(), nothing was appended", x.addWord(), 1);
        due("the sample", sample(x), "babababa");
    }

    private static void clearInput() {
        section("Promise 5: clearInput");
        says("Empties the input buffer.");
        PatternLanguages x = type(new PatternLanguages(), "bb");
        x.clearInput();
        type(x, "a").addWord();
        due("the sample", sample(x), "a");
        x.append(97, 20);
        x.clearInput();
        due("append(97, 20) after a full buffer", x.append(97, 20), 20);

        says("Returns the number of bytes it held.");
        x = new PatternLanguages();
        due("clearInput(), empty", x.clearInput(), 0);
        x.append(97, 20);
        due("clearInput(), full", x.clearInput(), 20);
        due("clearInput() again", x.clearInput(), 0);
        due("the rest stays", bench(x), bench(new PatternLanguages()));
    }

    // Patterns in registers

    private static void setPattern() {
        section("Promise 6: setPattern");
        says("Sets a register to the pattern in the input buffer.");
        for (int r = 0; r < 6; r++) {
            PatternLanguages x = new PatternLanguages();
            type(x, "bYaX").setPattern(r);
            for (int other = 0; other < 6; other++) {
                due("register " + other, pattern(x, other), other == r ? "bXaY" : "X");
            }
        }

        says("Returns the length of the pattern;");
        taken(0, 5, "c", "setPattern", 1, PatternLanguages::setPattern);
        taken(0, 5, "XYZWabcX", "setPattern", 8, PatternLanguages::setPattern);

        says("NO_SUCH_REGISTER (checked first);");
        refusedReadingFor(NO_REGISTERS, "aX", "setPattern", -2, PatternLanguages::setPattern);
        refusedReadingFor(NO_REGISTERS, "?", "setPattern", -2, PatternLanguages::setPattern);
        refusedReadingFor(NO_REGISTERS, "", "setPattern", -2, PatternLanguages::setPattern);

        says("BAD_INPUT if the input buffer does not hold a pattern.");
        for (String text : NO_PATTERNS) {
            refusedReading(text, "setPattern(0)", -5, x -> x.setPattern(0));
        }
        due("setPattern of c with 2 letters", type(with(2), "c").setPattern(0), -5);
        due("setPattern of b with 2 letters", type(with(2), "b").setPattern(0), 1);
        due("setPattern of b with 1 letter", type(with(1), "b").setPattern(0), -5);
        due("setPattern of a with 1 letter", type(with(1), "a").setPattern(0), 1);
    }

    private static void copy() {
        section("Promise 7: copy");
        says("Copies a register.");
        PatternLanguages x = scene();
        x.copy(5, 0);
        due("register 5", pattern(x, 5), "cXbY");
        x.copy(0, 2);
        due("register 0", pattern(x, 0), "abc");
        due("register 5 stays", pattern(x, 5), "cXbY");
        due("register 2 stays", pattern(x, 2), "abc");
        x.copy(1, 1);
        due("register 1, from itself", pattern(x, 1), "XYZW");

        says("Returns the length of the pattern;");
        x = with(2, "a", "abababab");
        due("copy(5, 1)", x.copy(5, 1), 8);
        due("copy(5, 0)", x.copy(5, 0), 1);
        due("copy(1, 1)", x.copy(1, 1), 8);

        says("NO_SUCH_REGISTER.");
        refusedFor(NO_REGISTERS, "copy from 0 to", -2, (y, r) -> y.copy(r, 0));
        refusedFor(NO_REGISTERS, "copy to 0 from", -2, (y, r) -> y.copy(0, r));
        refusedFor(NO_REGISTERS, "copy to itself", -2, (y, r) -> y.copy(r, r));
    }

    private static void length() {
        section("Promise 8: length");
        says("Returns the length of a pattern.");
        due("length(0)", with(2, "aXb").length(0), 3);
        says("Returns the number of its symbols;");
        due("length of 1 symbol", with(2, "b").length(0), 1);
        due("length of 8 symbols", with(2, "XYXYXYXY").length(0), 8);
        due("length(5)", scene().length(5), 2);
        says("NO_SUCH_REGISTER.");
        refusedFor(NO_REGISTERS, "length", -2, PatternLanguages::length);
    }

    private static void symbol() {
        section("Promise 9: symbol");
        says("Returns a symbol of a pattern.");
        due("symbol(0, 2)", scene().symbol(0, 2), 1);
        says("`position`: the position, from 0");
        PatternLanguages x = with(3, "cXabYYbW");
        due("symbol(0, 0)", x.symbol(0, 0), 2);
        due("symbol(0, 7)", x.symbol(0, 7), 12);
        due("symbol(0, 8)", x.symbol(0, 8), -6);
        due("symbol(0, -1)", x.symbol(0, -1), -6);
        says("Returns the code of the symbol;");
        due("symbol of a", with(3, "a").symbol(0, 0), 0);
        due("symbol of c", with(3, "c").symbol(0, 0), 2);
        due("symbol of X", with(3, "X").symbol(0, 0), 10);
        due("symbol of W", with(3, "XYZW").symbol(0, 3), 13);
        says("NO_SUCH_REGISTER (checked first);");
        refusedFor(NO_REGISTERS, "symbol of position 0", -2, (y, r) -> y.symbol(r, 0));
        refusedFor(NO_REGISTERS, "symbol of position 8", -2, (y, r) -> y.symbol(r, 8));
        says("NONE if there is no such position.");
        refusedFor(NO_POSITIONS, "symbol of register 0", -6, (y, i) -> y.symbol(0, i));
        refusedFor(new int[] {4, 7, 8}, "symbol of cXbY", -6, (y, i) -> y.symbol(0, i));
        x = with(2, "abababab");
        type(x, "b").setPattern(0);
        due("symbol(0, 0) of a shorter pattern", x.symbol(0, 0), 1);
        due("symbol(0, 1) of a shorter pattern", x.symbol(0, 1), -6);
    }

    private static void variableCount() {
        section("Promise 10: variableCount");
        says("Returns the number of different variables of a pattern.");
        due("variableCount of XaXYX", with(2, "XaXYX").variableCount(0), 2);
        says("Returns the number, 0 to 4;");
        due("variableCount of abab", with(2, "abab").variableCount(0), 0);
        due("variableCount of WWWW", with(2, "WWWW").variableCount(0), 1);
        due("variableCount of WZYXXYZW", with(2, "WZYXXYZW").variableCount(0), 4);
        says("NO_SUCH_REGISTER.");
        refusedFor(NO_REGISTERS, "variableCount", -2, PatternLanguages::variableCount);
        due("variableCount(5)", scene().variableCount(5), 1);
    }

    private static void occurrences() {
        section("Promise 11: occurrences");
        says("Returns how often a variable occurs in a pattern.");
        due("occurrences of Y in XYaY", with(2, "XYaY").occurrences(0, 1), 2);
        says("Returns the number of occurrences;");
        due("occurrences of X in XXXXXXXX", with(2, "XXXXXXXX").occurrences(0, 0), 8);
        due("occurrences of W in XYZW", scene().occurrences(1, 3), 1);
        says("NO_SUCH_REGISTER (checked first);");
        refusedFor(NO_REGISTERS, "occurrences of X", -2, (x, r) -> x.occurrences(r, 0));
        refusedFor(NO_REGISTERS, "occurrences of variable 4", -2, (x, r) -> x.occurrences(r, 4));
        says("NO_SUCH_VARIABLE if the variable does not occur.");
        refused("occurrences of X in abc", -3, x -> x.occurrences(2, 0));
        refused("occurrences of Z in cXbY", -3, x -> x.occurrences(0, 2));
        refused("occurrences of W in aXYZ", -3, x -> x.occurrences(4, 3));
        refusedFor(NO_VARIABLES, "occurrences in XYZW", -3, (x, v) -> x.occurrences(1, v));
        refusedFor(NO_VARIABLES, "occurrences in abc", -3, (x, v) -> x.occurrences(2, v));
    }

    private static void compareQuality() {
        section("Promise 12: compareQuality");
        says("Compares two patterns by their lengths and by quality.");
        better("XYZWXYZW", "abcabca");
        better("ab", "aX");
        says("A longer pattern is better than a shorter one;");
        better("XY", "a");
        better("XYZWXYZW", "aaaaaaa");
        says("patterns of equal length are compared as described above.");
        better("aXX", "XXX");
        better("cXX", "aXY");
        better("aXX", "bXX");
        says("Returns 2 if the first pattern is better, 1 if the patterns are equal, 0 if the second one is better;");
        PatternLanguages x = with(2, "ab", "aX", "aW");
        due("ab and aX", x.compareQuality(0, 1), 2);
        due("aX and aW", x.compareQuality(1, 2), 1);
        due("aX and ab", x.compareQuality(1, 0), 0);
        due("a register and itself", x.compareQuality(5, 5), 1);
        says("NO_SUCH_REGISTER.");
        refusedFor(NO_REGISTERS, "compareQuality of 0 and", -2, (y, r) -> y.compareQuality(0, r));
        refusedFor(NO_REGISTERS, "compareQuality of the register and 0", -2, (y, r) -> y.compareQuality(r, 0));
        refusedFor(NO_REGISTERS, "compareQuality with itself", -2, (y, r) -> y.compareQuality(r, r));
    }

    // Refinement

    private static void replace() {
        section("Promise 13: replace");
        says("Replaces a variable of a pattern by a letter.");
        PatternLanguages x = with(2, "XYXa");
        x.replace(0, 0, 1);
        due("register 0", pattern(x, 0), "bXba");
        x = with(3, "XXXXXXXX");
        x.replace(0, 0, 2);
        due("register 0", pattern(x, 0), "cccccccc");

        says("The result is brought into canonical form.");
        x = with(2, "XYZW");
        x.replace(0, 1, 0);
        due("register 0", pattern(x, 0), "XaYZ");

        says("Returns the number of different variables that are left;");
        due("replace in XYZW", with(2, "XYZW").replace(0, 3, 0), 3);
        due("replace in XX", with(2, "XX").replace(0, 0, 0), 0);

        says("NO_SUCH_REGISTER (checked first);");
        refusedFor(NO_REGISTERS, "replace", -2, (y, r) -> y.replace(r, 0, 0));
        refusedFor(NO_REGISTERS, "replace of variable 4 by letter 3", -2, (y, r) -> y.replace(r, 4, 3));
        taken(3, 5, "", "replace", 0, (y, r) -> y.replace(r, 0, 2));

        says("NO_SUCH_VARIABLE (checked second);");
        refusedFor(NO_VARIABLES, "replace in XYZW", -3, (y, v) -> y.replace(1, v, 0));
        refusedFor(NO_VARIABLES, "replace in XYZW by letter 3", -3, (y, v) -> y.replace(1, v, 3));
        refused("replace of X in abc", -3, y -> y.replace(2, 0, 0));
        refused("replace of W in aXYZ", -3, y -> y.replace(4, 3, -1));

        says("BAD_ARGUMENT if there is no such letter.");
        refusedFor(new int[] {-1, 3, 10, MIN, MAX}, "replace of X by letter", -1, (y, l) -> y.replace(0, 0, l));
        for (int k = 1; k <= 3; k++) {
            due("replace by the last of " + k + " letters", with(k, "X").replace(0, 0, k - 1), 0);
            due("replace by the one behind it", with(k, "X").replace(0, 0, k), -1);
        }
    }

    private static void merge() {
        section("Promise 14: merge");
        says("Replaces a variable of a pattern by another one of its variables.");
        PatternLanguages x = with(2, "XYaYX");
        x.merge(0, 1, 0);
        due("register 0", pattern(x, 0), "XXaXX");
        x = with(2, "XYZW");
        x.merge(0, 3, 1);
        due("register 0", pattern(x, 0), "XYZY");

        says("The result is brought into canonical form.");
        x = with(2, "XYZX");
        x.merge(0, 0, 2);
        due("register 0", pattern(x, 0), "XYXX");
        x = with(2, "XYZW");
        x.merge(0, 0, 3);
        due("register 0", pattern(x, 0), "XYZX");

        says("Returns the number of different variables that are left;");
        due("merge in XYZW", with(2, "XYZW").merge(0, 0, 3), 3);
        due("merge in XY", with(2, "XY").merge(0, 1, 0), 1);

        says("NO_SUCH_REGISTER (checked first);");
        refusedFor(NO_REGISTERS, "merge", -2, (y, r) -> y.merge(r, 0, 1));
        refusedFor(NO_REGISTERS, "merge of variable 4 with itself", -2, (y, r) -> y.merge(r, 4, 4));

        says("NO_SUCH_VARIABLE if either variable does not occur (checked second);");
        refusedFor(NO_VARIABLES, "merge of the variable in XYZW", -3, (y, v) -> y.merge(1, v, 0));
        refusedFor(NO_VARIABLES, "merge in XYZW with the other", -3, (y, v) -> y.merge(1, 0, v));
        refusedFor(NO_VARIABLES, "merge of the variable with itself", -3, (y, v) -> y.merge(1, v, v));
        refused("merge of Z and X in cXbY", -3, y -> y.merge(0, 2, 0));
        refused("merge of X and Z in cXbY", -3, y -> y.merge(0, 0, 2));
        refused("merge of Z and Z in cXbY", -3, y -> y.merge(0, 2, 2));
        refused("merge of X and X in abc", -3, y -> y.merge(2, 0, 0));

        says("BAD_ARGUMENT if they are the same.");
        refused("merge of X and X", -1, y -> y.merge(1, 0, 0));
        refused("merge of W and W", -1, y -> y.merge(1, 3, 3));
        refused("merge of the only variable", -1, y -> y.merge(5, 0, 0));
    }

    private static void splits(String from, int variable, String to) {
        PatternLanguages x = with(2, from);
        due("split of variable " + variable + " in " + from, x.split(0, variable), to.length());
        due("register 0", pattern(x, 0), to);
    }

    private static void split() {
        section("Promise 15: split");
        says("Replaces each occurrence of a variable by the variable followed by a new variable.");
        splits("XaX", 0, "XYaXY");
        splits("XYZ", 2, "XYZW");

        says("The result is brought into canonical form.");
        splits("XYX", 0, "XYZXY");
        splits("XYZ", 0, "XYZW");

        says("Returns the new length;");
        due("split of X", with(2, "X").split(0, 0), 2);
        due("split of XXXX", with(2, "XXXX").split(0, 0), 8);

        says("NO_SUCH_REGISTER (checked first);");
        refusedFor(NO_REGISTERS, "split", -2, (x, r) -> x.split(r, 0));
        refusedFor(NO_REGISTERS, "split of variable 4", -2, (x, r) -> x.split(r, 4));
        due("split(5, 0)", scene().split(5, 0), 4);

        says("NO_SUCH_VARIABLE (checked second);");
        refusedFor(NO_VARIABLES, "split in XYZW, which is full", -3, (x, v) -> x.split(1, v));
        refusedFor(NO_VARIABLES, "split in cXbY", -3, (x, v) -> x.split(0, v));
        refused("split of Y in XXXXX", -3, x -> x.split(3, 1));
        refused("split of X in abc", -3, x -> x.split(2, 0));

        says("FULL if the pattern has 4 different variables or the result would have more than 8 symbols.");
        for (int v = 0; v < 4; v++) {
            int variable = v;
            refused("split in XYZW of " + v, -4, x -> x.split(1, variable));
        }
        refused("split of XXXXX", -4, x -> x.split(3, 0));
        refused(x -> type(x, "aaaaaaaX").setPattern(0), "split of aaaaaaaX", -4, x -> x.split(0, 0));
        refused(x -> type(x, "aaaaaXYX").setPattern(0), "split of X in aaaaaXYX", -4, x -> x.split(0, 0));
        refused(x -> type(x, "aaaaXXX").setPattern(0), "split of X in aaaaXXX", -4, x -> x.split(0, 0));
        splits("aaaaXX", 0, "aaaaXYXY");
        splits("aaaaaaX", 0, "aaaaaaXY");
        splits("XYZXYZ", 1, "XYZWXYZW");
    }

    private static void change(int letters, String from, String word, String to) {
        PatternLanguages x = with(letters, from);
        due(word + " of " + from, type(x, word).transform(0), to.length());
        due(word + " of " + from, pattern(x, 0), to);
        due("clearInput() after " + word, x.clearInput(), 0);
    }

    private static void transformWords() {
        section("Promise 16: transform");
        says("Transforms a pattern as told by the word in the input buffer, and brings the result into canonical form.");
        change(2, "aXYb", "reverse", "bXYa");
        change(2, "XXYZ", "reverse", "XYZZ");

        says("The words are: \"reverse\" (the symbols in reverse order), \"swap\" (the letters a and b are exchanged;");
        change(2, "b", "reverse", "b");
        change(3, "abcabcXY", "reverse", "XYcbacba");
        change(3, "abcX", "swap", "bacX");
        change(2, "aaaaaaaa", "swap", "bbbbbbbb");
        change(2, "bb", "swap", "aa");

        says("letters that do not exist are not introduced, so that with 1 letter nothing changes), \"drop\" (the last"
                + " symbol is removed;");
        change(1, "aXa", "swap", "aXa");
        change(1, "X", "swap", "X");
        change(2, "aXYb", "drop", "aXY");
        change(2, "ab", "drop", "a");
        change(2, "XYZWXYZW", "drop", "XYZWXYZ");

        says("a pattern of one symbol stays), \"collapse\" (all variables become the same variable), \"forget\" (every"
                + " letter becomes the variable X, as if it were the same variable as the first variable of the"
                + " pattern;");
        change(2, "b", "drop", "b");
        change(2, "X", "drop", "X");
        change(2, "XaYZW", "collapse", "XaXXX");
        change(2, "ab", "collapse", "ab");
        change(3, "cXbYaX", "forget", "XXXYXX");
        change(3, "XYZWabca", "forget", "XYZWXXXX");
        change(2, "XY", "forget", "XY");

        says("in a pattern without variables all symbols become X).");
        change(3, "abcabcab", "forget", "XXXXXXXX");
        change(2, "b", "forget", "X");
    }

    private static void transformRefusals() {
        says("Returns the new length;");
        taken(0, 1, "reverse", "transform", 4, PatternLanguages::transform);
        due("drop of 8 symbols", type(with(2, "abababab"), "drop").transform(0), 7);
        due("drop of 1 symbol", type(with(2, "X"), "drop").transform(0), 1);
        due("drop in register 5", type(scene(), "drop").transform(5), 1);

        says("NO_SUCH_REGISTER (checked first);");
        refusedReadingFor(NO_REGISTERS, "drop", "transform", -2, PatternLanguages::transform);
        refusedReadingFor(NO_REGISTERS, "?", "transform", -2, PatternLanguages::transform);
        refusedReadingFor(NO_REGISTERS, "", "transform", -2, PatternLanguages::transform);

        says("BAD_INPUT if the input buffer does not hold one of these words.");
        for (String text : new String[] {"", "a", "X", "abc", "Drop", "DROP", "dropp", "dro", "rop", "drop ", " drop",
            "dropdrop", "swapdrop", "collaps", "reverseswapdropforge", "forge", "forgot", "rEverse", "swbp"}) {
            refusedReading(text, "transform(0)", -5, x -> x.transform(0));
        }
    }

    // Matching

    private static void matches() {
        section("Promise 17: matches");
        says("Returns whether a pattern matches the word in the input buffer.");
        due("cXbY on cabb", type(scene(), "cabb").matches(0, 0), 1);
        due("cXbY on cacb", type(scene(), "cacb").matches(0, 0), 0);
        says("`mode`: the mode, 0 or 1");
        due("cXbY on cb in mode 0", type(scene(), "cb").matches(0, 0), 0);
        due("cXbY on cb in mode 1", type(scene(), "cb").matches(0, 1), 1);
        due("mode 2", type(scene(), "cb").matches(0, 2), -1);
        due("mode -1", type(scene(), "cb").matches(0, -1), -1);
        says("Returns 1 or 0;");
        due("XYZW on 8 letters, of many matches", type(scene(), "aaaaaaaa").matches(1, 1), 1);
        due("XX on the empty word in mode 1", scene().matches(5, 1), 1);
        due("XX on the empty word in mode 0", scene().matches(5, 0), 0);
        due("abc on abc", type(scene(), "abc").matches(2, 0), 1);
        due("abc on ab", type(scene(), "ab").matches(2, 1), 0);
        due("abc on abca", type(scene(), "abca").matches(2, 1), 0);
        PatternLanguages x = type(scene(), "bcbc");
        x.matches(5, 0);
        due("the state after a match", state(x), state(scene()));
        matchingRefusals("matches", (y, r) -> y.matches(r, 0), (y, r) -> y.matches(r, 2), (y, m) -> y.matches(0, m));
        says("BAD_INPUT if the input buffer does not hold a word.");
        noWords("matches", y -> y.matches(1, 1));
    }

    /** What the three methods that match say in the same words of registers and modes. */
    private static void matchingRefusals(String call, Open ofRegister, Open ofRegisterInMode2, Open ofMode) {
        says("NO_SUCH_REGISTER (checked first);");
        refusedReadingFor(NO_REGISTERS, "abc", call, -2, ofRegister);
        refusedReadingFor(NO_REGISTERS, "?", call, -2, ofRegister);
        refusedReadingFor(NO_REGISTERS, "?", call + " in mode 2", -2, ofRegisterInMode2);
        due(call + " of register 5", ofRegister.on(type(scene(), "cc"), 5), 1);
        due(call + " of register 0", ofRegister.on(type(scene(), "cbba"), 0), 1);
        says("BAD_ARGUMENT if the mode is out of range (checked second);");
        refusedReadingFor(NO_MODES, "cabb", call + " in mode", -1, ofMode);
        refusedReadingFor(NO_MODES, "?", call + " in mode", -1, ofMode);
    }

    private static void noWords(String call, ToLongFunction<PatternLanguages> act) {
        for (String text : NO_WORDS) {
            refusedReading(text, call, -5, act);
        }
        for (int k = 1; k <= 3; k++) {
            PatternLanguages x = with(k);
            due(call + " of the letter behind " + k, act.applyAsLong(type(x, "abcd".substring(k, k + 1))), -5);
            due("clearInput()", x.clearInput(), 0);
        }
    }

    private static void matchCount() {
        section("Promise 18: matchCount");
        says("Counts the matches of the word in the input buffer.");
        due("XYZW on abca in mode 0", type(scene(), "abca").matchCount(1, 0), 1);
        due("XYZW on abcab in mode 0", type(scene(), "abcab").matchCount(1, 0), 4);
        says("`mode`: the mode, 0 or 1");
        due("XYZW on ab in mode 0", type(scene(), "ab").matchCount(1, 0), 0);
        due("XYZW on ab in mode 1", type(scene(), "ab").matchCount(1, 1), 10);
        due("mode 2", type(scene(), "ab").matchCount(1, 2), -1);
        due("mode -1", type(scene(), "ab").matchCount(1, -1), -1);
        says("Returns the number of matches;");
        due("XYZW on 8 letters in mode 1", type(scene(), "abcabcab").matchCount(1, 1), 165);
        due("XYZW on 8 letters in mode 0", type(scene(), "abcabcab").matchCount(1, 0), 35);
        due("XYZW on the empty word in mode 1", scene().matchCount(1, 1), 1);
        due("XYZW on the empty word in mode 0", scene().matchCount(1, 0), 0);
        due("abc on abc", type(scene(), "abc").matchCount(2, 1), 1);
        due("abc on acb", type(scene(), "acb").matchCount(2, 1), 0);
        PatternLanguages x = type(scene(), "bcbc");
        x.matchCount(1, 0);
        due("the state after a count", state(x), state(scene()));
        matchingRefusals("matchCount", (y, r) -> y.matchCount(r, 0), (y, r) -> y.matchCount(r, 2),
                (y, m) -> y.matchCount(0, m));
        says("BAD_INPUT if the input buffer does not hold a word.");
        noWords("matchCount", y -> y.matchCount(1, 1));
    }

    private static void match() {
        section("Promise 19: match");
        says("Finds the first match of the word in the input buffer.");
        PatternLanguages x = type(with(2, "XaY"), "babab");
        due("match of XaY on babab", x.match(0, 0), 1);
        due("the images", image(x, 0) + "," + image(x, 1), "b,bab");
        x = type(with(2, "XaY"), "aaaaaaaa");
        due("match of XaY on 8 letters, mode 1", x.match(0, 1), 0);
        due("the images", image(x, 0) + "," + image(x, 1), ",aaaaaaa");

        says("The images of the variables that occur in the pattern become the words of the match;");
        x = type(scene(), "bcab");
        due("match of XYZW", x.match(1, 0), 1);
        due("the images", image(x, 0) + "," + image(x, 1) + "," + image(x, 2) + "," + image(x, 3), "b,c,a,b");
        x = scene();
        due("match of XYZW on the empty word", x.match(1, 1), 0);
        due("the images", image(x, 0) + image(x, 1) + image(x, 2) + image(x, 3), "");
        x = type(with(2, "X"), "abababab");
        due("match of X on 8 letters", x.match(0, 0), 8);
        due("the image", image(x, 0), "abababab");

        says("the other images stay.");
        x = type(scene(), "abab");
        due("match of XX", x.match(5, 0), 2);
        due("the images", image(x, 0) + "," + image(x, 1) + "," + image(x, 2) + "," + image(x, 3), "ab,,ca,ab");
        x = type(scene(), "abc");
        due("match of abc", x.match(2, 0), 0);
        due("the state", state(x), state(scene()));

        says("`mode`: the mode, 0 or 1");
        due("cXbY on cb in mode 0", type(scene(), "cb").match(0, 0), -6);
        due("cXbY on cb in mode 1", type(scene(), "cb").match(0, 1), 0);
        due("mode 2", type(scene(), "cb").match(0, 2), -1);
        due("mode -1", type(scene(), "cb").match(0, -1), -1);
    }

    private static void matchRefusals() {
        says("Returns the length of the word of X in the match, or 0 if the pattern has no variables;");
        due("match of X on 1 letter", type(with(2), "b").match(0, 0), 1);
        due("match of X on 8 letters", type(with(2), "bbbbbbbb").match(0, 0), 8);
        due("match of X on the empty word", with(2).match(0, 1), 0);
        due("match of aXbY, the length is X's", type(with(2, "aXbY"), "aaaabb").match(0, 0), 3);
        due("match of abc", type(scene(), "abc").match(2, 1), 0);
        PatternLanguages x = type(with(2, "ab"), "bbb");
        x.setImage(0);
        due("match of ab with a long image of X", type(x, "ab").match(0, 0), 0);

        matchingRefusals("match", (y, r) -> y.match(r, 0), (y, r) -> y.match(r, 2), (y, m) -> y.match(0, m));

        says("BAD_INPUT if the input buffer does not hold a word (checked third);");
        noWords("match", y -> y.match(1, 1));
        noWords("match, where no word would match", y -> y.match(2, 0));

        says("NONE if there is no match.");
        refusedReading("", "match of XX, mode 0", -6, y -> y.match(5, 0));
        refusedReading("abc", "match of XX", -6, y -> y.match(5, 1));
        refusedReading("abca", "match of XX", -6, y -> y.match(5, 1));
        refusedReading("abc", "match of XYZW, mode 0", -6, y -> y.match(1, 0));
        refusedReading("ab", "match of abc", -6, y -> y.match(2, 0));
        refusedReading("abcc", "match of abc", -6, y -> y.match(2, 1));
        refusedReading("caac", "match of cXbY", -6, y -> y.match(0, 1));
        refusedReading("bbbbbbbb", "match of XXXXX", -6, y -> y.match(3, 1));
    }

    // Images and the sample

    private static void setImage() {
        section("Promise 20: setImage");
        says("Sets the image of a variable to the word in the input buffer.");
        for (int v = 0; v < 4; v++) {
            PatternLanguages x = new PatternLanguages();
            type(x, "bab").setImage(v);
            for (int other = 0; other < 4; other++) {
                due("the image of " + other, image(x, other), other == v ? "bab" : "a");
            }
        }
        says("`variable`: the variable, 0 to 3");
        taken(0, 3, "abc", "setImage", 3, PatternLanguages::setImage);
        due("setImage(4)", type(scene(), "abc").setImage(4), -3);
        due("setImage(-1)", type(scene(), "abc").setImage(-1), -3);
        says("Returns the length of the word;");
        PatternLanguages x = scene();
        due("setImage of 8 letters", type(x, "abcabcab").setImage(0), 8);
        due("the image", image(x, 0), "abcabcab");
        due("setImage of no letters", x.setImage(0), 0);
        due("the image", image(x, 0), "");
        due("setImage of 1 letter", type(x, "c").setImage(0), 1);
        says("NO_SUCH_VARIABLE if the number is out of range (checked first);");
        refusedReadingFor(NO_VARIABLES, "abc", "setImage", -3, PatternLanguages::setImage);
        refusedReadingFor(NO_VARIABLES, "?", "setImage", -3, PatternLanguages::setImage);
        says("BAD_INPUT if the input buffer does not hold a word.");
        noWords("setImage", y -> y.setImage(3));
    }

    private static void imageLetter() {
        section("Promise 21: imageLetter");
        says("Returns a letter of the image of a variable.");
        PatternLanguages x = scene();
        due("imageLetter(2, 1)", x.imageLetter(2, 1), 0);
        says("`variable`: the variable, 0 to 3");
        due("imageLetter(0, 0)", x.imageLetter(0, 0), 1);
        due("imageLetter(3, 0)", x.imageLetter(3, 0), 0);
        due("imageLetter(4, 0)", x.imageLetter(4, 0), -3);
        due("imageLetter(-1, 0)", x.imageLetter(-1, 0), -3);
        says("`position`: the position, from 0");
        type(x, "cabcabca").setImage(0);
        due("imageLetter(0, 0)", x.imageLetter(0, 0), 2);
        due("imageLetter(0, 7)", x.imageLetter(0, 7), 0);
        due("imageLetter(0, 8)", x.imageLetter(0, 8), -6);
        due("imageLetter(0, -1)", x.imageLetter(0, -1), -6);
        says("Returns the letter;");
        due("the letter a", x.imageLetter(0, 1), 0);
        due("the letter b", x.imageLetter(0, 2), 1);
        due("the letter c", x.imageLetter(0, 3), 2);
        says("NO_SUCH_VARIABLE if the number is out of range (checked first);");
        refusedFor(NO_VARIABLES, "imageLetter of position 0", -3, (y, v) -> y.imageLetter(v, 0));
        refusedFor(NO_VARIABLES, "imageLetter of position 8", -3, (y, v) -> y.imageLetter(v, 8));
        says("NONE if there is no such position.");
        refusedFor(NO_POSITIONS, "imageLetter of Z", -6, (y, i) -> y.imageLetter(2, i));
        refusedFor(new int[] {2, 7, 8}, "imageLetter of ca", -6, (y, i) -> y.imageLetter(2, i));
        refused("imageLetter of the empty word", -6, y -> y.imageLetter(1, 0));
        type(x, "b").setImage(0);
        due("imageLetter(0, 1) of a shorter word", x.imageLetter(0, 1), -6);
    }

    private static void addProduced() {
        section("Promise 22: addProduced");
        says("Adds the word to the sample that a pattern produces with the images of its variables.");
        PatternLanguages x = scene();
        x.addProduced(0);
        x.addProduced(1);
        x.addProduced(2);
        due("the sample", sample(x), "cab,,abc,cbb,bcaab,abc");
        x = with(2, "XYX");
        x.setImage(0);
        x.setImage(1);
        due("addProduced of the empty word", x.addProduced(0), 1);
        due("sampleCode(0)", x.sampleCode(0), 0);

        says("Returns the number of words in the sample;");
        x = new PatternLanguages();
        for (int i = 1; i <= 6; i++) {
            due("addProduced(" + (i - 1) + ")", x.addProduced(i - 1), i);
        }

        says("NO_SUCH_REGISTER (checked first);");
        refusedFor(NO_REGISTERS, "addProduced", -2, PatternLanguages::addProduced);
        for (int r : NO_REGISTERS) {
            refused(y -> addWords(y, "a", "b", "c"), "addProduced to a full sample of " + r, -2, y -> y.addProduced(r));
        }

        says("FULL if the word would have more than 8 letters or the sample has 6 words.");
        x = with(2, "XXXX", "XXXXb", "XXXXXXXX");
        type(x, "ab").setImage(0);
        due("addProduced of 8 letters", x.addProduced(0), 1);
        due("addProduced of 9 letters", x.addProduced(1), -4);
        due("addProduced of 16 letters", x.addProduced(2), -4);
        due("the sample", sample(x), "abababab");
        refused(y -> type(y, "abcabcab").setImage(0), "addProduced of cXbY, 10 letters", -4,
                y -> y.addProduced(0));
        refused(y -> type(y, "abcabc").setImage(0), "addProduced of XXXXX, 30 letters", -4, y -> y.addProduced(3));
        refused(y -> type(y, "abcabcab").setImage(2), "addProduced of aXYZ, 10 letters", -4, y -> y.addProduced(4));
        refused(y -> addWords(y, "a", "b", "c"), "addProduced to 6 words", -4, y -> y.addProduced(2));
        x = scene();
        addWords(x, "a", "b");
        due("addProduced to 5 words", x.addProduced(2), 6);
        due("addProduced to 6 words", x.addProduced(2), -4);
    }

    private static void addWord() {
        section("Promise 23: addWord");
        says("Adds the word in the input buffer to the sample.");
        PatternLanguages x = withSample(3, "", "a", "abcabcab", "", "a");
        due("the sample, equal words too", sample(x), ",a,abcabcab,,a");
        says("Returns the number of words in the sample;");
        x = new PatternLanguages();
        for (int i = 1; i <= 6; i++) {
            due("addWord()", type(x, "b").addWord(), i);
        }
        says("BAD_INPUT if the input buffer does not hold a word (checked first);");
        noWords("addWord", PatternLanguages::addWord);
        for (String text : NO_WORDS) {
            refusedReading(y -> addWords(y, "a", "b", "c"), text, "addWord to 6 words", -5, PatternLanguages::addWord);
        }
        says("FULL if the sample has 6 words.");
        refusedReading(y -> addWords(y, "a", "b", "c"), "abc", "addWord to 6 words", -4, PatternLanguages::addWord);
        refusedReading(y -> addWords(y, "a", "b", "c"), "", "addWord to 6 words", -4, PatternLanguages::addWord);
        x = scene();
        addWords(x, "a", "b");
        due("addWord to 5 words", type(x, "c").addWord(), 6);
        x.removeWord(0);
        due("addWord after a removal", type(x, "c").addWord(), 6);
    }

    private static void removeWord() {
        section("Promise 24: removeWord");
        says("Removes a word from the sample.");
        PatternLanguages x = withSample(3, "a", "b", "c", "aa", "bb", "cc");
        x.removeWord(5);
        due("the sample without the last word", sample(x), "a,b,c,aa,bb");
        says("The words after it are renumbered.");
        x.removeWord(0);
        due("the sample without the first word", sample(x), "b,c,aa,bb");
        x.removeWord(1);
        due("the sample without a middle word", sample(x), "b,aa,bb");
        x = withSample(3, "a", "b", "c", "aa", "bb", "cc");
        x.removeWord(0);
        due("a full sample without the first word", sample(x), "b,c,aa,bb,cc");
        x = withSample(3, "a", "b", "c", "aa", "bb", "cc");
        x.removeWord(4);
        due("a full sample without the last word but one", sample(x), "a,b,c,aa,cc");
        due("sampleCode(4)", x.sampleCode(4), code("cc"));
        due("sampleCode(5)", x.sampleCode(5), NO_VALUE);
        says("`index`: the index of the word, from 0");
        due("removeWord(0)", scene().removeWord(0), 2);
        due("removeWord(2)", scene().removeWord(2), 2);
        due("removeWord(3)", scene().removeWord(3), -6);
        due("removeWord(-1)", scene().removeWord(-1), -6);
        says("Returns the number of words that are left;");
        x = withSample(2, "a", "a", "a", "a", "a", "a");
        for (int left = 5; left >= 0; left--) {
            due("removeWord(0)", x.removeWord(0), left);
        }
        says("NONE if there is no such word.");
        refusedFor(new int[] {3, 5, 6, -1, MIN, MAX}, "removeWord", -6, PatternLanguages::removeWord);
        due("removeWord(0) without words", new PatternLanguages().removeWord(0), -6);
        refused(y -> addWords(y, "a", "b", "c"), "removeWord(6) of 6 words", -6, y -> y.removeWord(6));
    }

    private static void sampleSize() {
        section("Promise 25: sampleSize");
        says("Returns the number of words in the sample.");
        due("sampleSize()", scene().sampleSize(), 3);
        says("Returns the number of words.");
        PatternLanguages x = new PatternLanguages();
        due("sampleSize(), empty", x.sampleSize(), 0);
        addWords(x, "", "", "", "", "", "", "");
        due("sampleSize(), full", x.sampleSize(), 6);
    }

    private static void sampleCode() {
        section("Promise 26: sampleCode");
        says("Returns the code of a word of the sample: the sum, over its positions i, of the letter plus 1, times 4 to"
                + " the power i.");
        PatternLanguages x = withSample(3, "a", "c", "ab", "ba", "aaaaaaaa", "cccccccc");
        due("a", x.sampleCode(0), 1);
        due("c", x.sampleCode(1), 3);
        due("ab", x.sampleCode(2), 9);
        due("ba", x.sampleCode(3), 6);
        due("aaaaaaaa", x.sampleCode(4), 21845);
        due("cccccccc", x.sampleCode(5), 65535);
        says("`index`: the index of the word, from 0");
        due("sampleCode(0)", scene().sampleCode(0), code("cab"));
        due("sampleCode(2)", scene().sampleCode(2), code("abc"));
        due("sampleCode(3)", scene().sampleCode(3), NO_VALUE);
        due("sampleCode(-1)", scene().sampleCode(-1), NO_VALUE);
        says("Returns the code, 0 for the empty word;");
        due("the empty word", withSample(2, "").sampleCode(0), 0);
        says("NO_VALUE if there is no such word.");
        refusedFor(new int[] {3, 5, 6, -1, MIN, MAX}, "sampleCode", NO_VALUE, PatternLanguages::sampleCode);
        due("sampleCode(6) of 6 words", x.sampleCode(6), NO_VALUE);
        x.removeWord(0);
        due("sampleCode(5) of 5 words", x.sampleCode(5), NO_VALUE);
        due("sampleCode(0) without words", new PatternLanguages().sampleCode(0), NO_VALUE);
    }

    private static void firstMisfit() {
        section("Promise 27: firstMisfit");
        says("Returns the first word of the sample that a pattern does not match.");
        PatternLanguages x = withSample(2, "ab", "ab", "b", "a");
        type(x, "ab").setPattern(1);
        due("firstMisfit of ab", x.firstMisfit(1, 0), 2);
        says("`mode`: the mode, 0 or 1");
        x = withSample(2, "aa", "a");
        type(x, "aX").setPattern(1);
        due("firstMisfit of aX in mode 0", x.firstMisfit(1, 0), 1);
        due("firstMisfit of aX in mode 1", x.firstMisfit(1, 1), -6);
        due("mode 2", x.firstMisfit(1, 2), -1);
        due("mode -1", x.firstMisfit(1, -1), -1);
        says("Returns the index of the word;");
        x = withSample(2, "b", "b", "b", "b", "b", "a");
        type(x, "a").setPattern(0);
        type(x, "b").setPattern(5);
        due("the first word", x.firstMisfit(0, 0), 0);
        due("the last word", x.firstMisfit(5, 0), 5);
        says("NO_SUCH_REGISTER (checked first);");
        refusedFor(NO_REGISTERS, "firstMisfit", -2, (y, r) -> y.firstMisfit(r, 0));
        refusedFor(NO_REGISTERS, "firstMisfit in mode 2", -2, (y, r) -> y.firstMisfit(r, 2));
        says("BAD_ARGUMENT if the mode is out of range (checked second);");
        refusedFor(NO_MODES, "firstMisfit in mode", -1, (y, mode) -> y.firstMisfit(0, mode));
        due("without words", new PatternLanguages().firstMisfit(0, 2), -1);
        says("NONE if the pattern fits the sample.");
        refused("firstMisfit of XYZW", -6, y -> y.firstMisfit(1, 1));
        due("XY on the empty word in mode 1", withSampleAnd("XY", "").firstMisfit(0, 1), -6);
        due("XY on the empty word in mode 0", withSampleAnd("XY", "").firstMisfit(0, 0), 0);
        due("without words", with(2, "ab").firstMisfit(0, 0), -6);
    }

    private static PatternLanguages withSampleAnd(String pattern, String... words) {
        PatternLanguages x = withSample(2, words);
        type(x, pattern).setPattern(0);
        return x;
    }

    // Generality

    private static void isMoreGeneral() {
        section("Promise 28: isMoreGeneral");
        says("Returns whether a pattern is at least as general as another one.");
        general("aX", "abX", 0, 1);
        general("abX", "aX", 0, 0);
        general("ab", "ab", 0, 1);
        says("`mode`: the mode, 0 or 1");
        general("XYZWXYZW", "XX", 0, 0);
        general("XYZWXYZW", "XX", 1, 1);
        general("X", "X", 2, -1);
        general("X", "X", -1, -1);
        says("Returns 1 or 0;");
        general("X", "XYZWXYZW", 0, 1);
        general("XYZW", "XYZWXYZW", 0, 1);
        general("XYZWXYZW", "X", 1, 0);
        general("aXb", "aYc", 1, 0);
        says("NO_SUCH_REGISTER (checked first);");
        refusedFor(NO_REGISTERS, "isMoreGeneral of the register", -2, (x, r) -> x.isMoreGeneral(r, 0, 0));
        refusedFor(NO_REGISTERS, "isMoreGeneral over the register", -2, (x, r) -> x.isMoreGeneral(0, r, 0));
        refusedFor(NO_REGISTERS, "isMoreGeneral in mode 2", -2, (x, r) -> x.isMoreGeneral(0, r, 2));
        refusedFor(NO_REGISTERS, "isMoreGeneral in mode -1", -2, (x, r) -> x.isMoreGeneral(r, 0, -1));
        taken(0, 5, "", "isMoreGeneral over itself", 1, (x, r) -> x.isMoreGeneral(r, r, 0));
        says("BAD_ARGUMENT if the mode is out of range.");
        refusedFor(NO_MODES, "isMoreGeneral in mode", -1, (x, mode) -> x.isMoreGeneral(0, 1, mode));
    }

    private static void chainBreak() {
        section("Promise 29: chainBreak");
        says("Returns whether registers form a chain: each pattern is at least as general as the pattern in the next"
                + " register, and is not equivalent to it.");
        PatternLanguages x = with(2, "X", "XY", "XYZ", "XYZW", "aXYZ", "abaX");
        due("chainBreak(0, 5, 0)", x.chainBreak(0, 5, 0), -6);
        due("chainBreak(0, 5, 1), equivalent ones", x.chainBreak(0, 5, 1), 0);
        due("chainBreak(3, 5, 1)", x.chainBreak(3, 5, 1), -6);
        x.copy(3, 4);
        due("chainBreak(3, 4, 0), equal ones", x.chainBreak(3, 4, 0), 3);

        says("`last`: the last register, not below the first one");
        due("chainBreak(0, 0, 0)", x.chainBreak(0, 0, 0), -6);
        due("chainBreak(5, 5, 1)", x.chainBreak(5, 5, 1), -6);
        due("chainBreak(5, 4, 0)", x.chainBreak(5, 4, 0), -1);
        due("chainBreak(1, 0, 0)", x.chainBreak(1, 0, 0), -1);

        says("`mode`: the mode, 0 or 1");
        x = with(2, "XY", "X", "a");
        due("chainBreak(0, 1, 0)", x.chainBreak(0, 1, 0), 0);
        due("chainBreak(1, 2, 0)", x.chainBreak(1, 2, 0), -6);
        due("chainBreak(1, 2, 1)", x.chainBreak(1, 2, 1), -6);
        due("chainBreak(1, 2, 2)", x.chainBreak(1, 2, 2), -1);
        due("chainBreak(1, 2, -1)", x.chainBreak(1, 2, -1), -1);

        says("Returns the first register whose pattern is not followed as required, or NONE if they form a chain;");
        x = with(2, "X", "aX", "aaX", "aaaX", "b", "a");
        due("the first break of several", x.chainBreak(0, 5, 0), 3);
        due("the last register but one", x.chainBreak(4, 5, 0), 4);
        due("no break before the last", x.chainBreak(0, 3, 0), -6);
        due("a break behind the last does not count", x.chainBreak(2, 3, 0), -6);

        says("NO_SUCH_REGISTER (checked first);");
        refusedFor(NO_REGISTERS, "chainBreak from the register", -2, (y, r) -> y.chainBreak(r, 0, 0));
        refusedFor(NO_REGISTERS, "chainBreak to the register", -2, (y, r) -> y.chainBreak(0, r, 0));
        refusedFor(NO_REGISTERS, "chainBreak from 5 to the register, mode 2", -2, (y, r) -> y.chainBreak(5, r, 2));
        refusedFor(NO_REGISTERS, "chainBreak from the register, mode 2", -2, (y, r) -> y.chainBreak(r, 5, 2));

        says("BAD_ARGUMENT if last is below first or the mode is out of range.");
        refusedFor(NO_MODES, "chainBreak in mode", -1, (y, mode) -> y.chainBreak(0, 1, mode));
        refusedFor(NO_MODES, "chainBreak of one register in mode", -1, (y, mode) -> y.chainBreak(2, 2, mode));
        refusedFor(new int[] {0, 1, 4}, "chainBreak from 5 to", -1, (y, last) -> y.chainBreak(5, last, 0));
    }

    // Learning

    private static void found(PatternLanguages x, int length, int mode, String want) {
        int letters = want.replaceAll("[XYZW]", "").length();
        due("findPattern(2, " + length + ", " + mode + ")", x.findPattern(2, length, mode), letters);
        due("the pattern of length " + length + " in mode " + mode, pattern(x, 2), want);
    }

    private static void findPattern() {
        section("Promise 30: findPattern");
        says("Finds the best pattern of a given length that fits the sample, and stores it.");
        found(withSample(2, "abab", "aaaa"), 4, 0, "aXaX");
        found(withSample(2, "aab", "abb"), 3, 0, "aXb");
        found(withSample(2, "", "b"), 2, 1, "XY");
        found(withSample(2, "ab", "ba"), 3, 1, "XaY");
        found(withSample(2), 5, 0, "aaaaa");
        for (int r = 0; r < 6; r += 5) {
            PatternLanguages x = withSample(2, "bb");
            x.findPattern(r, 2, 0);
            for (int other = 0; other < 6; other++) {
                due("register " + other, pattern(x, other), other == r ? "bb" : "X");
            }
        }

        says("`length`: the length, 1 to 5");
        found(withSample(2, "abbab"), 1, 0, "X");
        found(withSample(2, "abbab"), 5, 0, "abbab");
        due("findPattern(2, 0, 0)", withSample(2, "abbab").findPattern(2, 0, 0), -1);
        due("findPattern(2, 6, 0)", withSample(2, "abbab").findPattern(2, 6, 0), -1);

        says("`mode`: the mode, 0 or 1");
        due("findPattern(2, 2, 0) of b", withSample(2, "b").findPattern(2, 2, 0), -6);
        found(withSample(2, "b"), 2, 1, "bX");
        due("findPattern(2, 2, 2)", withSample(2, "b").findPattern(2, 2, 2), -1);
        due("findPattern(2, 2, -1)", withSample(2, "b").findPattern(2, 2, -1), -1);

        says("Returns the number of letters of the pattern;");
        due("all letters", withSample(3, "cabca").findPattern(0, 5, 0), 5);
        due("no letter", withSample(3, "a", "b").findPattern(0, 1, 0), 0);
        due("some letters", withSample(3, "ca", "cb").findPattern(0, 2, 0), 1);
    }

    private static void findPatternRefusals() {
        says("NO_SUCH_REGISTER (checked first);");
        refusedFor(NO_REGISTERS, "findPattern", -2, (x, r) -> x.findPattern(r, 1, 1));
        refusedFor(NO_REGISTERS, "findPattern of length 6", -2, (x, r) -> x.findPattern(r, 6, 1));
        refusedFor(NO_REGISTERS, "findPattern in mode 2", -2, (x, r) -> x.findPattern(r, 1, 2));
        refusedFor(NO_REGISTERS, "findPattern without a fit", -2, (x, r) -> x.findPattern(r, 5, 0));

        says("BAD_ARGUMENT if the length or the mode is out of range (checked second);");
        refusedFor(new int[] {0, -1, 6, 8, 9, MIN, MAX}, "findPattern of length", -1, (x, n) -> x.findPattern(0, n, 1));
        refusedFor(new int[] {0, 6, MAX}, "findPattern without a fit", -1, (x, n) -> x.findPattern(0, n, 0));
        refusedFor(NO_MODES, "findPattern in mode", -1, (x, mode) -> x.findPattern(0, 1, mode));
        refusedFor(NO_MODES, "findPattern of length 5 in mode", -1, (x, mode) -> x.findPattern(0, 5, mode));
        due("findPattern(0, 0, 0) without words", new PatternLanguages().findPattern(0, 0, 0), -1);
        due("findPattern(0, 6, 0) without words", new PatternLanguages().findPattern(0, 6, 0), -1);

        says("NONE if no pattern of the length fits the sample, in which case the register stays.");
        refused("findPattern of length 1 with an empty word, mode 0", -6, x -> x.findPattern(0, 1, 0));
        refused("findPattern of length 5 with an empty word, mode 0", -6, x -> x.findPattern(5, 5, 0));
        refused(x -> x.removeWord(1), "findPattern of length 4 with words of 3", -6, x -> x.findPattern(0, 4, 0));
        PatternLanguages x = withSample(2, FIVE_COLUMNS);
        due("findPattern(2, 5, 0), a fifth variable would be needed", x.findPattern(2, 5, 0), -6);
        due("register 2", pattern(x, 2), "X");
        found(x, 4, 0, "XYZW");
        x = withSampleAnd("XY", "");
        due("findPattern(1, 5, 0), an empty word", x.findPattern(1, 5, 0), -6);
        due("matchCount of XY after the search", type(x, "aaa").matchCount(0, 0), 2);
        due("findPattern(1, 5, 0) again", x.findPattern(1, 5, 0), -6);
        due("match of XY after the search", type(x, "aaa").match(0, 0), 1);
        due("the image of Y", image(x, 1), "aa");
    }

    private static void longest(String want, int letters, String... words) {
        PatternLanguages x = withSample(letters, words);
        due("findOneVariable(4)", x.findOneVariable(4), want.length());
        due("the pattern", pattern(x, 4), want);
    }

    private static void findOneVariable() {
        section("Promise 31: findOneVariable");
        says("Finds the best of the longest patterns in which X occurs, no other variable occurs, and that fit the"
                + " sample in mode 0, among the patterns of 1 to 7 symbols, and stores it.");
        longest("aX", 2, "ab");
        longest("X", 2, "ab", "ba");
        longest("X", 2, "a", "aa");
        longest("XX", 2, "aa", "bb");
        longest("X", 2, "b");
        longest("bbbbbbX", 2, "bbbbbbb");
        longest("bbbbbbX", 2, "bbbbbbba");
        longest("ccccccX", 3, "cccccccc");
        longest("bbbbbX", 2, "bbbbbb");
        longest("aaaaaaX", 2);
        longest("aXbXab", 2, "aabaab", "abbbab");
        longest("aXXX", 2, "abbb", "aaaa");
        longest("aXXX", 2, "abbb", "aababab");
        longest("XXXXXXX", 2, "aaaaaaa", "bbbbbbb");
        PatternLanguages x = withSample(2, "ab");
        x.findOneVariable(0);
        x.findOneVariable(5);
        for (int r = 0; r < 6; r++) {
            due("register " + r, pattern(x, r), r % 5 == 0 ? "aX" : "X");
        }

        says("Returns the length of the pattern;");
        due("7 symbols", withSample(2, "abababab").findOneVariable(0), 7);
        due("1 symbol", withSample(2, "abababab", "a").findOneVariable(0), 1);

        says("NO_SUCH_REGISTER (checked first);");
        refusedFor(NO_REGISTERS, "findOneVariable without a fit", -2, PatternLanguages::findOneVariable);
        for (int r : NO_REGISTERS) {
            refused(y -> y.removeWord(1), "findOneVariable(" + r + ")", -2, y -> y.findOneVariable(r));
        }

        says("NONE if there is no such pattern, in which case the register stays.");
        refusedFor(new int[] {0, 3, 5}, "findOneVariable with an empty word", -6, PatternLanguages::findOneVariable);
        due("the empty word alone", withSample(2, "").findOneVariable(0), -6);
    }

    // Languages

    private static void countWords() {
        section("Promise 32: countWords");
        says("Counts the words of a given length in the language of a pattern.");
        PatternLanguages x = with(3, "X", "XX", "aXb", "XY");
        due("XX of length 4", x.countWords(1, 0, 4), 9);
        due("XX of length 3", x.countWords(1, 1, 3), 0);
        due("aXb of length 5", x.countWords(2, 0, 5), 27);

        says("`mode`: the mode, 0 or 1");
        due("aXb of length 2 in mode 0", x.countWords(2, 0, 2), 0);
        due("aXb of length 2 in mode 1", x.countWords(2, 1, 2), 1);
        due("mode 2", x.countWords(2, 2, 2), -1);
        due("mode -1", x.countWords(2, -1, 2), -1);

        says("`length`: the length, 0 to 6");
        due("X of length 0 in mode 1", x.countWords(0, 1, 0), 1);
        due("X of length 0 in mode 0", x.countWords(0, 0, 0), 0);
        due("X of length 6", x.countWords(0, 0, 6), 729);
        due("X of length 7", x.countWords(0, 0, 7), -1);
        due("X of length -1", x.countWords(0, 0, -1), -1);

        says("Returns the number of words;");
        due("none", x.countWords(3, 0, 1), 0);
        due("all", x.countWords(3, 0, 2), 9);
        due("all of 1 letter", with(1).countWords(0, 0, 6), 1);
        due("all of 1 letter that begin with it", with(1, "aX").countWords(0, 0, 6), 1);
        due("all of 2 letters", with(2).countWords(0, 0, 6), 64);
        due("a pattern longer than the words", with(2, "aaaaaaaa").countWords(0, 1, 6), 0);
        due("a long pattern in mode 1", with(2, "XYZWXYZW").countWords(0, 1, 6), 8);

        says("NO_SUCH_REGISTER (checked first);");
        refusedFor(NO_REGISTERS, "countWords", -2, (y, r) -> y.countWords(r, 0, 1));
        refusedFor(NO_REGISTERS, "countWords in mode 2", -2, (y, r) -> y.countWords(r, 2, 1));
        refusedFor(NO_REGISTERS, "countWords of length 7", -2, (y, r) -> y.countWords(r, 0, 7));
        due("countWords(5, 0, 2)", scene().countWords(5, 0, 2), 3);

        says("BAD_ARGUMENT if the mode or the length is out of range.");
        refusedFor(NO_MODES, "countWords in mode", -1, (y, mode) -> y.countWords(0, mode, 1));
        refusedFor(new int[] {-1, 7, 8, MIN, MAX}, "countWords of length", -1, (y, n) -> y.countWords(0, 0, n));
        refused("countWords, a call that changes nothing", 3, y -> y.countWords(5, 0, 2));
    }

    private static void difference() {
        section("Promise 33: difference");
        says("Finds the first word, in the order of words, that is in the language of one pattern but not in that of"
                + " another one.");
        PatternLanguages x = with(3, "X", "aX", "XX", "XcYcZc", "XccYZc");
        due("X and aX", x.difference(0, 1, 0, 6), code("a"));
        due("aX and X", x.difference(1, 0, 0, 6), NO_VALUE);
        due("aX and XX", x.difference(1, 2, 0, 6), code("ab"));
        due("XX and aX", x.difference(2, 1, 0, 6), code("bb"));

        says("`mode`: the mode, 0 or 1");
        due("aX and XX in mode 1", x.difference(1, 2, 1, 6), code("a"));
        due("X and aX in mode 1", x.difference(0, 1, 1, 6), code(""));
        due("mode 2", x.difference(0, 1, 2, 6), NO_VALUE);
        due("mode -1", x.difference(0, 1, -1, 6), NO_VALUE);

        says("`limit`: the maximum length of the word, 0 to 6");
        due("a word of 6 letters", x.difference(3, 4, 0, 6), code("acacac"));
        due("a limit below it", x.difference(3, 4, 0, 5), NO_VALUE);
        due("limit 7", x.difference(3, 4, 0, 7), NO_VALUE);
        due("limit 0, the empty word", x.difference(0, 1, 1, 0), 0);
        due("limit 0, mode 0", x.difference(0, 1, 0, 0), NO_VALUE);
        due("limit 1", x.difference(0, 1, 0, 1), code("a"));
        due("limit -1", x.difference(0, 1, 1, -1), NO_VALUE);

        says("Returns the code of the word, as for sampleCode;");
        due("the empty word", x.difference(0, 1, 1, 6), 0);
        due("cc", with(3, "cX", "aX", "cc").difference(2, 1, 0, 6), 15);
        due("cccccc, the last word", with(3, "cccccc", "aX").difference(0, 1, 0, 6), 4095);

        says("NO_VALUE if there is no such word or an argument is invalid.");
        due("equal patterns", x.difference(0, 0, 1, 6), NO_VALUE);
        due("a pattern longer than the limit", with(2, "aaaaaaa", "b").difference(0, 1, 1, 6), NO_VALUE);
        refusedFor(NO_REGISTERS, "difference of the register", NO_VALUE, (y, r) -> y.difference(r, 2, 1, 6));
        refusedFor(NO_REGISTERS, "difference from the register", NO_VALUE, (y, r) -> y.difference(5, r, 1, 6));
        refusedFor(NO_MODES, "difference in mode", NO_VALUE, (y, mode) -> y.difference(5, 2, mode, 6));
        refusedFor(new int[] {-1, 7, 8, MIN, MAX}, "difference to", NO_VALUE, (y, n) -> y.difference(5, 2, 1, n));
        refused("difference, a call that changes nothing", code("aa"), y -> y.difference(5, 2, 0, 6));
    }

    // Arrays

    private static void allocate() {
        section("Promise 34: allocate");
        says("Stores a new array, filled with 0 or false, in an array slot.");
        for (int type = 0; type < 4; type++) {
            PatternLanguages x = new PatternLanguages();
            fill(x, 3, type, 1, 1, 1);
            x.allocate(3, type, 40);
            due("an array of type " + type, elements(x, 3), "0 ".repeat(40).trim());
            x.putElement(3, 39, 1);
            x.allocate(3, type, 2);
            due("a shorter array of type " + type, elements(x, 3), "0 0");
            x.allocate(3, type, 40);
            due("a longer one again", x.element(3, 39), 0);
        }

        says("`slot`: the slot, 0 to 3");
        taken(0, 3, "", "allocate", 2, (x, slot) -> x.allocate(slot, 0, 2));
        due("allocate(4, 0, 2)", scene().allocate(4, 0, 2), -1);
        due("allocate(-1, 0, 2)", scene().allocate(-1, 0, 2), -1);

        says("`type`: the element type: 0 byte, 1 char, 2 int, 3 boolean");
        long[] kept = {-1, 65535, -1, 1};
        for (int type = 0; type < 4; type++) {
            PatternLanguages x = new PatternLanguages();
            fill(x, 0, type, -1);
            due("an element of type " + type, x.element(0, 0), kept[type]);
        }
        due("allocate(0, 4, 2)", scene().allocate(0, 4, 2), -1);
        due("allocate(0, -1, 2)", scene().allocate(0, -1, 2), -1);

        says("Returns the size;");
        due("allocate(0, 0, 0)", scene().allocate(0, 0, 0), 0);
        due("allocate(0, 0, 1)", scene().allocate(0, 0, 1), 1);
        due("allocate(0, 0, 40)", scene().allocate(0, 0, 40), 40);

        says("BAD_ARGUMENT if the slot or the type is out of range or the size is above 40 (checked first);");
        refusedFor(NO_SLOTS, "allocate in slot", -1, (x, slot) -> x.allocate(slot, 0, 1));
        refusedFor(NO_SLOTS, "allocate of size -1 in slot", -1, (x, slot) -> x.allocate(slot, 0, -1));
        refusedFor(new int[] {-1, 4, MIN, MAX}, "allocate of type", -1, (x, type) -> x.allocate(0, type, 1));
        refusedFor(new int[] {-1, 4, MIN, MAX}, "allocate of size -1, type", -1, (x, type) -> x.allocate(0, type, -1));
        refusedFor(new int[] {41, 42, MAX}, "allocate of size", -1, (x, size) -> x.allocate(2, 2, size));
        refusedFor(new int[] {41, MAX}, "allocate in an empty slot", -1, (x, size) -> x.allocate(3, 2, size));

        says("NEGATIVE_SIZE.");
        refusedFor(new int[] {-1, -40, MIN}, "allocate of size", -14, (x, size) -> x.allocate(1, 1, size));
        refusedFor(new int[] {-1, MIN}, "allocate in an empty slot", -14, (x, size) -> x.allocate(3, 3, size));
    }

    private static void release() {
        section("Promise 35: release");
        says("Empties an array slot.");
        PatternLanguages x = scene();
        x.release(0);
        due("putElement(0, 0, 1)", x.putElement(0, 0, 1), -11);
        due("element(0, 0)", x.element(0, 0), NO_VALUE);
        due("the other slots", elements(x, 1) + "," + elements(x, 2), "88 99 88,7");
        says("`slot`: the slot, 0 to 3");
        x = new PatternLanguages();
        x.allocate(0, 0, 1);
        x.allocate(3, 0, 1);
        due("release(0)", x.release(0), 1);
        due("release(3)", x.release(3), 1);
        due("release(4)", x.release(4), -1);
        due("release(-1)", x.release(-1), -1);
        says("Returns 1 if it held an array, 0 if it was empty;");
        x = new PatternLanguages();
        due("release(0), new", x.release(0), 0);
        x.allocate(0, 3, 0);
        due("release(0), an array without elements", x.release(0), 1);
        due("release(0) again", x.release(0), 0);
        x.allocate(0, 2, 40);
        due("release(0), 40 elements", x.release(0), 1);
        refused("release(3), empty", 0, y -> y.release(3));
        says("BAD_ARGUMENT if the slot is out of range.");
        refusedFor(NO_SLOTS, "release", -1, PatternLanguages::release);
    }

    private static void narrowed(int type, long value, long want) {
        PatternLanguages x = new PatternLanguages();
        x.allocate(0, type, 3);
        due("putElement(0, 1, " + value + ")", x.putElement(0, 1, value), 1);
        due("the elements of type " + type + " after " + value, elements(x, 0), "0 " + want + " 0");
    }

    private static void putElement() {
        section("Promise 36: putElement");
        says("Sets an array element.");
        PatternLanguages x = new PatternLanguages();
        x.allocate(3, 2, 40);
        x.putElement(3, 0, 4);
        x.putElement(3, 39, 5);
        due("the array", elements(x, 3), "4 " + "0 ".repeat(38) + "5");

        says("The value is narrowed to the element type as by a Java cast;");
        long[] values = {0, 1, -1, 127, 128, 255, 256, -128, -129, 65535, 65536, -65536, Integer.MAX_VALUE,
            Integer.MAX_VALUE + 1L, Integer.MIN_VALUE, Integer.MIN_VALUE - 1L, 1L << 32, Long.MAX_VALUE,
            Long.MIN_VALUE};
        for (long value : values) {
            narrowed(0, value, (byte) value);
            narrowed(1, value, (char) value);
            narrowed(2, value, (int) value);
        }
        narrowed(0, 128, -128);
        narrowed(0, -129, 127);
        narrowed(1, -1, 65535);
        narrowed(1, 65536, 0);
        narrowed(2, 2147483648L, -2147483648L);
        narrowed(2, -2147483649L, 2147483647L);

        says("a boolean element becomes true if the value is not 0.");
        for (long value : values) {
            narrowed(3, value, value == 0 ? 0 : 1);
        }
        x = new PatternLanguages();
        fill(x, 0, 3, 1);
        x.putElement(0, 0, 0);
        due("an element that becomes false", x.element(0, 0), 0);

        says("Returns 1;");
        due("putElement(0, 0, 0)", scene().putElement(0, 0, 0), 1);
        due("putElement(0, 1, -9)", scene().putElement(0, 1, -9), 1);

        says("BAD_ARGUMENT if the slot is out of range (checked first);");
        refusedFor(NO_SLOTS, "putElement in slot", -1, (y, slot) -> y.putElement(slot, 0, 5));
        refusedFor(NO_SLOTS, "putElement at -1 in slot", -1, (y, slot) -> y.putElement(slot, -1, 5));

        says("EMPTY_SLOT (checked second);");
        refused("putElement in slot 3", -11, y -> y.putElement(3, 0, 5));
        refused("putElement in slot 3 at -1", -11, y -> y.putElement(3, -1, 5));
        refused("putElement in slot 3 at 40", -11, y -> y.putElement(3, 40, 5));
        refused(y -> y.release(0), "putElement in a released slot", -11, y -> y.putElement(0, 0, 5));

        says("INDEX_OUT_OF_RANGE.");
        refusedFor(new int[] {-1, 2, 39, 40, MIN, MAX}, "putElement at", -13, (y, i) -> y.putElement(0, i, 5));
        refused(y -> y.allocate(3, 0, 0), "putElement in an array without elements", -13, y -> y.putElement(3, 0, 5));
        refused(y -> y.allocate(0, 0, 40), "putElement at 40 of 40", -13, y -> y.putElement(0, 40, 5));
    }

    private static void element() {
        section("Promise 37: element");
        says("Returns an array element.");
        due("element(2, 0)", scene().element(2, 0), 7);
        says("A char is returned as its code, 0 to 65535, and a boolean as 1 or 0.");
        PatternLanguages x = new PatternLanguages();
        fill(x, 0, 1, 0, 65535, 32768);
        fill(x, 1, 3, 0, -5);
        due("the chars", elements(x, 0), "0 65535 32768");
        due("the booleans", elements(x, 1), "0 1");
        says("Returns the element;");
        fill(x, 2, 2, Integer.MIN_VALUE, Integer.MAX_VALUE, -1);
        fill(x, 3, 0, -128, 127, -1);
        due("the ints", elements(x, 2), "-2147483648 2147483647 -1");
        due("the bytes", elements(x, 3), "-128 127 -1");
        x.allocate(3, 0, 40);
        x.putElement(3, 39, 3);
        due("the last of 40", x.element(3, 39), 3);
        says("NO_VALUE if the slot is out of range or empty, or the index is out of range.");
        refusedFor(NO_SLOTS, "element of slot", NO_VALUE, (y, slot) -> y.element(slot, 0));
        refused("element of an empty slot", NO_VALUE, y -> y.element(3, 0));
        refused(y -> y.release(2), "element of a released slot", NO_VALUE, y -> y.element(2, 0));
        refusedFor(new int[] {-1, 2, 39, 40, MIN, MAX}, "element at", NO_VALUE, (y, i) -> y.element(0, i));
        refused(y -> y.allocate(3, 0, 0), "element of an array without elements", NO_VALUE, y -> y.element(3, 0));
        due("element 40 of 40", x.element(3, 40), NO_VALUE);
        x.allocate(3, 0, 1);
        due("element 1 of a shorter array", x.element(3, 1), NO_VALUE);
    }

    private static PatternLanguages withArrays() {
        PatternLanguages x = new PatternLanguages();
        fill(x, 0, 2, 1, 2, 3, 4, 5, 6);
        fill(x, 1, 2, 7, 8, 9);
        return x;
    }

    private static void copyElements() {
        section("Promise 38: copyElements");
        says("Copies elements from one array to another one, or within one array, as System.arraycopy does.");
        PatternLanguages x = withArrays();
        x.copyElements(0, 3, 1, 0, 3);
        due("to another array", elements(x, 1) + "," + elements(x, 0), "4 5 6,1 2 3 4 5 6");
        x = withArrays();
        x.copyElements(0, 0, 0, 1, 5);
        due("within one array, to the right", elements(x, 0), "1 1 2 3 4 5");
        x = withArrays();
        x.copyElements(0, 1, 0, 0, 5);
        due("within one array, to the left", elements(x, 0), "2 3 4 5 6 6");
        x = withArrays();
        x.copyElements(0, 2, 0, 2, 4);
        due("to the same place", elements(x, 0), "1 2 3 4 5 6");
        for (int type = 0; type < 4; type++) {
            x = new PatternLanguages();
            fill(x, 2, type, 1, 0, 1);
            x.allocate(3, type, 3);
            due("copyElements of type " + type, x.copyElements(2, 0, 3, 0, 3), 3);
            due("the elements", elements(x, 3), "1 0 1");
        }

        says("Returns the count;");
        due("no elements", withArrays().copyElements(0, 0, 1, 0, 0), 0);
        due("no elements at the ends", withArrays().copyElements(0, 6, 1, 3, 0), 0);
        due("all elements", withArrays().copyElements(1, 0, 0, 3, 3), 3);
        x = new PatternLanguages();
        x.allocate(0, 0, 40);
        x.allocate(3, 0, 40);
        due("40 elements", x.copyElements(0, 0, 3, 0, 40), 40);
        x.allocate(0, 0, 0);
        due("from an array without elements", x.copyElements(0, 0, 3, 40, 0), 0);
    }

    private static void copyElementsRefusals() {
        says("BAD_ARGUMENT if a slot is out of range (checked first);");
        refusedFor(NO_SLOTS, "copyElements from slot", -1, (x, slot) -> x.copyElements(slot, 0, 0, 0, 1));
        refusedFor(NO_SLOTS, "copyElements to slot", -1, (x, slot) -> x.copyElements(0, 0, slot, 0, 1));
        refusedFor(NO_SLOTS, "copyElements from the empty slot to", -1, (x, slot) -> x.copyElements(3, 0, slot, 0, 1));
        refusedFor(NO_SLOTS, "copyElements to the empty slot from", -1, (x, slot) -> x.copyElements(slot, -1, 3, 0, -1));

        says("EMPTY_SLOT if either slot is empty (checked second);");
        refused("copyElements from the empty slot", -11, x -> x.copyElements(3, 0, 0, 0, 1));
        refused("copyElements to the empty slot", -11, x -> x.copyElements(0, 0, 3, 0, 1));
        refused("copyElements within the empty slot", -11, x -> x.copyElements(3, 0, 3, 0, 0));
        refused("copyElements of no elements", -11, x -> x.copyElements(0, 0, 3, 0, 0));
        refused("copyElements of -1 elements", -11, x -> x.copyElements(3, -1, 0, -1, -1));

        says("WRONG_TYPE if the element types differ (checked third);");
        for (int from = 0; from < 4; from++) {
            for (int to = 0; to < 4; to++) {
                PatternLanguages x = new PatternLanguages();
                fill(x, 0, from, 1, 1);
                x.allocate(1, to, 2);
                due("copyElements from " + from + " to " + to, x.copyElements(0, 0, 1, 0, 1), from == to ? 1 : -12);
                due("the elements", elements(x, 1), from == to ? "1 0" : "0 0");
            }
        }
        refused("copyElements of no elements", -12, x -> x.copyElements(0, 0, 1, 0, 0));
        refused("copyElements at -1", -12, x -> x.copyElements(0, -1, 1, 99, -1));

        says("INDEX_OUT_OF_RANGE if an index or the count is negative, or an end is beyond the size of either array.");
        int[][] bad = {{-1, 0, 1}, {0, -1, 1}, {0, 0, -1}, {-1, 0, 0}, {0, -1, 0}, {0, 0, 4}, {4, 0, 3}, {0, 1, 3},
            {0, 3, 1}, {6, 0, 1}, {7, 0, 0}, {0, 4, 0}, {MAX, 0, 1}, {0, MAX, 1}, {0, 0, MAX}, {1, 0, MAX}, {0, 1, MAX},
            {MAX, MAX, MAX}, {MIN, 0, 1}, {0, MIN, 1}, {0, 0, MIN}, {MAX, 0, 0}, {2, 0, MAX - 1}, {MIN, MIN, MIN}};
        for (int[] a : bad) {
            String call = "copyElements(0, " + a[0] + ", 1, " + a[1] + ", " + a[2] + ")";
            PatternLanguages x = withArrays();
            due(call, x.copyElements(0, a[0], 1, a[1], a[2]), -13);
            due("the slots after " + call, elements(x, 0) + "," + elements(x, 1), "1 2 3 4 5 6,7 8 9");
            due(call + " on another bench", copyIn(a), -13);
        }
        refused("copyElements within 2 elements", -13, x -> x.copyElements(0, 0, 0, 1, 2));
        refused("copyElements of 3 of 2 elements", -13, x -> x.copyElements(0, 0, 0, 0, 3));
        due("just to the end", withArrays().copyElements(0, 5, 1, 2, 1), 1);
    }

    /** As in the test before, but both arrays have room behind their ends. */
    private static long copyIn(int[] a) {
        PatternLanguages x = new PatternLanguages();
        x.allocate(0, 2, 40);
        x.allocate(1, 2, 40);
        x.allocate(0, 2, 6);
        x.allocate(1, 2, 3);
        return x.copyElements(0, a[0], 1, a[1], a[2]);
    }

    private static void loads(int letters, String text, long want) {
        PatternLanguages x = with(letters);
        fillChars(x, 3, text);
        due("loadPattern of '" + text + "' with " + letters + " letters", x.loadPattern(5, 3), want);
        due("register 5 after '" + text + "'", pattern(x, 5).length(), want < 0 ? 1 : want);
    }

    private static void loadPattern() {
        section("Promise 39: loadPattern");
        says("Sets a register to a pattern that is stored in an array of chars: all its elements, which must be letters"
                + " of the alphabet or the characters X, Y, Z and W.");
        PatternLanguages x = new PatternLanguages();
        fillChars(x, 0, "ZaWbZX");
        due("loadPattern(0, 0)", x.loadPattern(0, 0), 6);
        due("register 0", pattern(x, 0), "XaYbXZ");
        due("the array stays", elements(x, 0), "90 97 87 98 90 88");
        loads(1, "a", 1);
        loads(1, "b", -5);
        loads(2, "b", 1);
        loads(2, "c", -5);
        loads(3, "c", 1);
        loads(3, "d", -5);
        loads(3, "`", -5);
        loads(3, "XYZW", 4);
        loads(3, "V", -5);
        loads(3, "[", -5);

        says("Returns the length of the pattern;");
        loads(3, "X", 1);
        loads(3, "abcXYZWa", 8);
        for (int r = 0; r < 6; r += 5) {
            for (int slot = 0; slot < 4; slot += 3) {
                x = new PatternLanguages();
                fillChars(x, slot, "ab");
                due("loadPattern(" + r + ", " + slot + ")", x.loadPattern(r, slot), 2);
                due("register " + r, pattern(x, r), "ab");
            }
        }
    }

    private static void loadPatternRefusals() {
        says("NO_SUCH_REGISTER (checked first);");
        refusedFor(NO_REGISTERS, "loadPattern from slot 1", -2, (x, r) -> x.loadPattern(r, 1));
        refusedFor(NO_REGISTERS, "loadPattern from slot 4", -2, (x, r) -> x.loadPattern(r, 4));
        refusedFor(NO_REGISTERS, "loadPattern from the empty slot", -2, (x, r) -> x.loadPattern(r, 3));
        refusedFor(NO_REGISTERS, "loadPattern from bytes", -2, (x, r) -> x.loadPattern(r, 0));

        says("BAD_ARGUMENT if the slot is out of range (checked second);");
        refusedFor(NO_SLOTS, "loadPattern from slot", -1, (x, slot) -> x.loadPattern(0, slot));

        says("EMPTY_SLOT (checked third);");
        refused("loadPattern from the empty slot", -11, x -> x.loadPattern(0, 3));
        refused(x -> x.release(1), "loadPattern from a released slot", -11, x -> x.loadPattern(0, 1));

        says("WRONG_TYPE if the array does not hold chars (checked fourth);");
        for (int type : new int[] {0, 2, 3}) {
            refused(x -> fill(x, 3, type, 'a', 'X'), "loadPattern of type " + type, -12, x -> x.loadPattern(0, 3));
            refused(x -> x.allocate(3, type, 0), "loadPattern of no elements", -12, x -> x.loadPattern(0, 3));
            refused(x -> x.allocate(3, type, 40), "loadPattern of 40 elements", -12, x -> x.loadPattern(0, 3));
        }

        says("BAD_INPUT if its elements are not a pattern.");
        for (String text : NO_PATTERNS) {
            refused(x -> fillChars(x, 3, text), "loadPattern of '" + text + "'", -5, x -> x.loadPattern(0, 3));
        }
        for (long code : new long[] {0, 96, 100, 128 + 97, 256 + 97, 256 + 88, 65535, 65536 - 159}) {
            refused(x -> fill(x, 3, 1, 'a', code), "loadPattern of code " + code, -5, x -> x.loadPattern(0, 3));
        }
        refused(x -> x.allocate(3, 1, 40), "loadPattern of 40 elements", -5, x -> x.loadPattern(0, 3));
    }

    // The snapshot

    private static void snapshot() {
        section("Promise 40: snapshot");
        says("Takes a snapshot of the number of letters, the registers, the images and the sample.");
        PatternLanguages x = scene();
        String before = bench(x);
        x.snapshot();
        due("the bench after it", bench(x), before);
        x.reset(1);
        x.restore();
        due("the bench restored", bench(x), before);
        x = scene();
        addWords(x, "a", "b", "abcabcab");
        type(x, "abcXYZWW").setPattern(5);
        before = bench(x);
        x.snapshot();
        x.restore();
        due("the bench with a full sample", bench(x), before);

        says("It replaces an earlier snapshot.");
        x = withSample(3, "a", "b", "c", "a", "b", "c");
        x.snapshot();
        x.reset(1);
        due("snapshot() without words", x.snapshot(), 0);
        addWords(x, "a");
        due("restore()", x.restore(), 0);
        due("the bench", bench(x), bench(with(1)));

        says("Returns the number of words in the sample.");
        due("a new object", new PatternLanguages().snapshot(), 0);
        due("six words", withSample(2, "a", "a", "a", "a", "a", "a").snapshot(), 6);
        x = type(scene(), "ab");
        x.snapshot();
        due("the buffer stays", x.clearInput(), 2);
        due("the slots stay", elements(x, 0) + "," + elements(x, 1) + "," + elements(x, 2), "1 -2,88 99 88,7");
    }

    private static void restore() {
        section("Promise 41: restore");
        says("Restores the snapshot.");
        PatternLanguages x = scene();
        x.restore();
        due("the bench", bench(x), "letters 2, registers X bXa X X X X, images 'a' 'a' 'b' 'a', sample 'ba'");

        says("The snapshot stays available.");
        x = scene();
        x.restore();
        String first = bench(x);
        type(x, "aaaa").setPattern(1);
        type(x, "bbb").setImage(2);
        x.removeWord(0);
        due("restore() again", x.restore(), 1);
        due("the bench", bench(x), first);
        x.reset(3);
        addWords(x, "c", "c");
        due("restore() a third time", x.restore(), 1);
        due("the bench", bench(x), first);

        says("Returns the number of words in the sample;");
        x = new PatternLanguages();
        x.snapshot();
        addWords(x, "a", "b");
        due("no words", x.restore(), 0);
        x = withSample(2, "a", "a", "a", "a", "a", "a");
        x.snapshot();
        x.removeWord(0);
        due("six words", x.restore(), 6);
        due("addWord() to them", x.addWord(), -4);

        says("NONE if there is no snapshot.");
        due("a new object", new PatternLanguages().restore(), -6);
        x = with(3, "aXb");
        addWords(x, "c");
        type(x, "cb").setImage(1);
        type(x, "ab");
        String before = bench(x);
        due("restore()", x.restore(), -6);
        due("the bench stays", bench(x), before);
        due("the buffer stays", x.clearInput(), 2);
        due("restore() again", x.restore(), -6);
        due("restore() after a reset", x.reset(2) + x.restore(), 3 - 6);
    }
}
