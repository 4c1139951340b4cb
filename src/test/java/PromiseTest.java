/**
 * The promises one by one: ordinary inputs, the edges that the document names, wrong inputs, and
 * the document's examples. The answers are worked out by hand from the document.
 */
public final class PromiseTest {
    private static final long NO_VALUE = Long.MIN_VALUE;
    private static int wrong = 0;
    private static int promise = 0;

    private static void due(String call, long got, long want) {
        if (got != want) {
            wrong++;
            System.out.println("promise " + promise + ": " + call + " answered " + got + ", due is " + want);
        }
    }

    private static void due(String call, String got, String want) {
        if (!got.equals(want)) {
            wrong++;
            System.out.println("promise " + promise + ": " + call + " showed " + got + ", due is " + want);
        }
    }

    private static PatternLanguages type(PatternLanguages x, String text) {
        for (int i = 0; i < text.length(); i++) {
            x.append(text.charAt(i), 1);
        }
        return x;
    }

    private static PatternLanguages with(String... patterns) {
        return withLetters(2, patterns);
    }

    private static PatternLanguages withLetters(int letters, String... patterns) {
        PatternLanguages x = new PatternLanguages();
        x.reset(letters);
        for (int i = 0; i < patterns.length; i++) {
            type(x, patterns[i]).setPattern(i);
        }
        return x;
    }

    private static PatternLanguages withSample(int letters, String... words) {
        PatternLanguages x = new PatternLanguages();
        x.reset(letters);
        for (String word : words) {
            type(x, word).addWord();
        }
        return x;
    }

    private static String pattern(PatternLanguages x, int register) {
        StringBuilder text = new StringBuilder();
        for (int i = 0; i < x.length(register); i++) {
            int code = x.symbol(register, i);
            text.append(code >= 10 ? "XYZW".charAt(code - 10) : (char) ('a' + code));
        }
        return text.toString();
    }

    private static String image(PatternLanguages x, int variable) {
        StringBuilder text = new StringBuilder();
        for (int i = 0; x.imageLetter(variable, i) >= 0 && i < 9; i++) {
            text.append((char) ('a' + x.imageLetter(variable, i)));
        }
        return text.toString();
    }

    private static String sample(PatternLanguages x) {
        StringBuilder text = new StringBuilder();
        for (int i = 0; i < x.sampleSize(); i++) {
            text.append(i == 0 ? "" : ",");
            for (long code = x.sampleCode(i); code > 0; code /= 4) {
                text.append((char) ('a' + code % 4 - 1));
            }
        }
        return text.toString();
    }

    private static long code(String word) {
        long code = 0;
        for (int i = word.length() - 1; i >= 0; i--) {
            code = code * 4 + (word.charAt(i) - 'a' + 1);
        }
        return code;
    }

    public static void main(String[] args) {
        constants();
        examples();
        newObject();
        reset();
        letters();
        append();
        clearInput();
        setPattern();
        copy();
        length();
        symbol();
        variableCount();
        occurrences();
        compareQuality();
        replace();
        merge();
        split();
        transform();
        matches();
        matchCount();
        match();
        setImage();
        imageLetter();
        addProduced();
        addWord();
        removeWord();
        sampleSize();
        sampleCode();
        firstMisfit();
        isMoreGeneral();
        chainBreak();
        findPattern();
        findOneVariable();
        countWords();
        difference();
        allocate();
        release();
        putElement();
        element();
        copyElements();
        loadPattern();
        snapshot();
        restore();
        System.out.println(wrong == 0 ? "the promises hold" : wrong + " answers are not as due");
        if (wrong != 0) {
            System.exit(1);
        }
    }

    private static void constants() {
        promise = 0;
        due("BAD_ARGUMENT", PatternLanguages.BAD_ARGUMENT, -1);
        due("NO_SUCH_REGISTER", PatternLanguages.NO_SUCH_REGISTER, -2);
        due("NO_SUCH_VARIABLE", PatternLanguages.NO_SUCH_VARIABLE, -3);
        due("FULL", PatternLanguages.FULL, -4);
        due("BAD_INPUT", PatternLanguages.BAD_INPUT, -5);
        due("NONE", PatternLanguages.NONE, -6);
        due("EMPTY_SLOT", PatternLanguages.EMPTY_SLOT, -11);
        due("WRONG_TYPE", PatternLanguages.WRONG_TYPE, -12);
        due("INDEX_OUT_OF_RANGE", PatternLanguages.INDEX_OUT_OF_RANGE, -13);
        due("NEGATIVE_SIZE", PatternLanguages.NEGATIVE_SIZE, -14);
        due("NO_VALUE", PatternLanguages.NO_VALUE, Long.MIN_VALUE);
    }

    private static void examples() {
        promise = 0;
        PatternLanguages x = new PatternLanguages();
        due("append(97, 1)", x.append(97, 1), 1);
        due("append(89, 1)", x.append(89, 1), 2);
        due("append(98, 1)", x.append(98, 1), 3);
        due("append(89, 1)", x.append(89, 1), 4);
        due("setPattern(0)", x.setPattern(0), 4);
        due("symbol(0, 1)", x.symbol(0, 1), 10);
        due("append(97, 2)", x.append(97, 2), 2);
        due("append(98, 1)", x.append(98, 1), 3);
        due("append(97, 1)", x.append(97, 1), 4);
        due("match(0, 0)", x.match(0, 0), 1);
        due("imageLetter(0, 0)", x.imageLetter(0, 0), 0);
        due("split(0, 0)", x.split(0, 0), 6);
        due("symbol(0, 2)", x.symbol(0, 2), 11);

        x = new PatternLanguages();
        due("append(97, 1)", x.append(97, 1), 1);
        due("append(98, 1)", x.append(98, 1), 2);
        due("append(97, 1)", x.append(97, 1), 3);
        due("append(98, 1)", x.append(98, 1), 4);
        due("addWord()", x.addWord(), 1);
        due("append(97, 4)", x.append(97, 4), 4);
        due("addWord()", x.addWord(), 2);
        due("findPattern(1, 4, 0)", x.findPattern(1, 4, 0), 2);
        due("symbol(1, 1)", x.symbol(1, 1), 10);
        due("isMoreGeneral(0, 1, 0)", x.isMoreGeneral(0, 1, 0), 1);
        due("isMoreGeneral(1, 0, 0)", x.isMoreGeneral(1, 0, 0), 0);
        due("difference(0, 1, 0, 2)", x.difference(0, 1, 0, 2), 1);

        x = new PatternLanguages();
        due("append(88, 1)", x.append(88, 1), 1);
        due("append(89, 1)", x.append(89, 1), 2);
        due("setPattern(2)", x.setPattern(2), 2);
        due("append(97, 3)", x.append(97, 3), 3);
        due("matchCount(2, 0)", x.matchCount(2, 0), 2);
        due("append(97, 3)", x.append(97, 3), 3);
        due("matchCount(2, 1)", x.matchCount(2, 1), 4);
        due("countWords(2, 0, 1)", x.countWords(2, 0, 1), 0);
        due("merge(2, 0, 0)", x.merge(2, 0, 0), -1);
        due("append(99, 1)", x.append(99, 1), 1);
        due("addWord()", x.addWord(), -5);
    }

    private static void newObject() {
        promise = 1;
        PatternLanguages x = new PatternLanguages();
        due("letters()", x.letters(), 2);
        for (int r = 0; r < 6; r++) {
            due("register " + r, pattern(x, r), "X");
        }
        for (int v = 0; v < 4; v++) {
            due("image " + v, image(x, v), "a");
        }
        for (int slot = 0; slot < 4; slot++) {
            due("release(" + slot + ")", x.release(slot), 0);
        }
        due("sampleSize()", x.sampleSize(), 0);
        due("clearInput()", x.clearInput(), 0);
        due("restore()", x.restore(), -6);
        PatternLanguages other = new PatternLanguages();
        x.reset(3);
        due("letters() of another object", other.letters(), 2);
    }

    private static void reset() {
        promise = 2;
        PatternLanguages x = with("aXbY", "ab", "XX", "YXY", "b", "aa");
        type(x, "bb").setImage(0);
        type(x, "").setImage(3);
        type(x, "ab").addWord();
        x.allocate(1, 2, 3);
        x.putElement(1, 2, 77);
        x.snapshot();
        type(x, "cX");
        due("reset(0)", x.reset(0), -1);
        due("reset(4)", x.reset(4), -1);
        due("reset(-1)", x.reset(-1), -1);
        due("reset(MAX)", x.reset(Integer.MAX_VALUE), -1);
        due("register 0 after refusals", pattern(x, 0), "aXbY");
        due("sampleSize() after refusals", x.sampleSize(), 1);
        due("reset(3)", x.reset(3), 2);
        due("letters()", x.letters(), 3);
        for (int r = 0; r < 6; r++) {
            due("register " + r, pattern(x, r), "X");
        }
        for (int v = 0; v < 4; v++) {
            due("image " + v, image(x, v), "a");
        }
        due("sampleSize()", x.sampleSize(), 0);
        due("setPattern(0), the buffer stays", x.setPattern(0), 2);
        due("element(1, 2), the array stays", x.element(1, 2), 77);
        due("reset(1)", x.reset(1), 3);
        due("reset(1)", x.reset(1), 1);
        due("restore(), the snapshot stays", x.restore(), 1);
        due("letters()", x.letters(), 2);
        due("register 0", pattern(x, 0), "aXbY");
    }

    private static void letters() {
        promise = 3;
        PatternLanguages x = new PatternLanguages();
        for (int k = 1; k <= 3; k++) {
            x.reset(k);
            due("letters()", x.letters(), k);
        }
        x.reset(1);
        due("setPattern of b with 1 letter", type(x, "b").setPattern(0), -5);
        due("setPattern of a with 1 letter", type(x, "a").setPattern(0), 1);
    }

    private static void append() {
        promise = 4;
        PatternLanguages x = new PatternLanguages();
        due("append(-1, 1)", x.append(-1, 1), -1);
        due("append(128, 1)", x.append(128, 1), -1);
        due("append(97, 0)", x.append(97, 0), -1);
        due("append(97, -1)", x.append(97, -1), -1);
        due("append(97, 21)", x.append(97, 21), -1);
        due("append(97, MAX)", x.append(97, Integer.MAX_VALUE), -1);
        due("append(0, 1)", x.append(0, 1), 1);
        due("append(127, 19)", x.append(127, 19), 20);
        due("append(97, 1)", x.append(97, 1), -4);
        due("append(97, 21), the argument first", x.append(97, 21), -1);
        due("append(200, 20), the argument first", x.append(200, 20), -1);
        due("clearInput()", x.clearInput(), 20);
        due("append(97, 20)", x.append(97, 20), 20);
        x.clearInput();
        x.append(97, 7);
        due("append(98, 14)", x.append(98, 14), -4);
        due("addWord(), nothing was appended", x.addWord(), 1);
        due("sample", sample(x), "aaaaaaa");
    }

    private static void clearInput() {
        promise = 5;
        PatternLanguages x = new PatternLanguages();
        due("clearInput()", x.clearInput(), 0);
        x.append(97, 5);
        due("clearInput()", x.clearInput(), 5);
        due("clearInput()", x.clearInput(), 0);
    }

    private static void setPattern() {
        promise = 6;
        PatternLanguages x = new PatternLanguages();
        due("WaZbXWY", type(x, "WaZbXWY").setPattern(5), 7);
        due("canonical", pattern(x, 5), "XaYbZXW");
        due("consumed", x.clearInput(), 0);
        due("8 symbols", type(x, "XYZWWZYX").setPattern(0), 8);
        due("8 symbols", pattern(x, 0), "XYZWWZYX");
        due("9 symbols", type(x, "aaaaaaaaa").setPattern(0), -5);
        due("register stays", pattern(x, 0), "XYZWWZYX");
        due("empty", x.setPattern(0), -5);
        due("c with 2 letters", type(x, "aXc").setPattern(0), -5);
        due("consumed after BAD_INPUT", x.clearInput(), 0);
        due("V", type(x, "aV").setPattern(0), -5);
        due("x", type(x, "x").setPattern(0), -5);
        due("A", type(x, "A").setPattern(0), -5);
        due("byte 0", x.append(0, 1) + x.setPattern(0), -4);
        due("register -1", type(x, "aX").setPattern(-1), -2);
        due("consumed after NO_SUCH_REGISTER", x.clearInput(), 0);
        due("register 6", type(x, "aX").setPattern(6), -2);
        due("register 6 before BAD_INPUT", type(x, "?").setPattern(6), -2);
        x.reset(3);
        due("c with 3 letters", type(x, "cXc").setPattern(3), 3);
        due("c with 3 letters", pattern(x, 3), "cXc");
        due("d with 3 letters", type(x, "d").setPattern(3), -5);
    }

    private static void copy() {
        promise = 7;
        PatternLanguages x = with("aXbYY", "ab");
        due("copy(5, 0)", x.copy(5, 0), 5);
        due("register 5", pattern(x, 5), "aXbYY");
        due("copy(5, 1)", x.copy(5, 1), 2);
        due("register 5", pattern(x, 5), "ab");
        due("register 0", pattern(x, 0), "aXbYY");
        due("copy(0, 0)", x.copy(0, 0), 5);
        due("register 0", pattern(x, 0), "aXbYY");
        x.copy(4, 0);
        x.replace(4, 0, 0);
        due("a copy is a pattern of its own", pattern(x, 0), "aXbYY");
        due("copy(6, 0)", x.copy(6, 0), -2);
        due("copy(0, 6)", x.copy(0, 6), -2);
        due("copy(-1, 0)", x.copy(-1, 0), -2);
        due("copy(0, -1)", x.copy(0, -1), -2);
    }

    private static void length() {
        promise = 8;
        PatternLanguages x = with("aXbY", "XYZWabab", "b");
        due("length(0)", x.length(0), 4);
        due("length(1)", x.length(1), 8);
        due("length(2)", x.length(2), 1);
        due("length(-1)", x.length(-1), -2);
        due("length(6)", x.length(6), -2);
    }

    private static void symbol() {
        promise = 9;
        PatternLanguages x = withLetters(3, "cXbYaZW");
        int[] codes = {2, 10, 1, 11, 0, 12, 13};
        for (int i = 0; i < codes.length; i++) {
            due("symbol(0, " + i + ")", x.symbol(0, i), codes[i]);
        }
        due("symbol(0, 7)", x.symbol(0, 7), -6);
        due("symbol(0, 8)", x.symbol(0, 8), -6);
        due("symbol(0, -1)", x.symbol(0, -1), -6);
        due("symbol(0, MIN)", x.symbol(0, Integer.MIN_VALUE), -6);
        due("symbol(0, MAX)", x.symbol(0, Integer.MAX_VALUE), -6);
        due("symbol(6, 0)", x.symbol(6, 0), -2);
        due("symbol(-1, 99)", x.symbol(-1, 99), -2);
        type(x, "ab").setPattern(0);
        due("symbol(0, 2), of a shorter pattern", x.symbol(0, 2), -6);
    }

    private static void variableCount() {
        promise = 10;
        PatternLanguages x = with("ab", "XaX", "WZWZ", "aYbXZ", "XYZWXYZW");
        for (int r = 0; r < 5; r++) {
            due("variableCount(" + r + ")", x.variableCount(r), r);
        }
        due("variableCount(6)", x.variableCount(6), -2);
        due("variableCount(-1)", x.variableCount(-1), -2);
    }

    private static void occurrences() {
        promise = 11;
        PatternLanguages x = with("aYbXYY", "ab");
        due("occurrences(0, 0)", x.occurrences(0, 0), 3);
        due("occurrences(0, 1)", x.occurrences(0, 1), 1);
        due("occurrences(0, 2)", x.occurrences(0, 2), -3);
        due("occurrences(0, 3)", x.occurrences(0, 3), -3);
        due("occurrences(0, 4)", x.occurrences(0, 4), -3);
        due("occurrences(0, -1)", x.occurrences(0, -1), -3);
        due("occurrences(0, -10)", x.occurrences(0, -10), -3);
        due("occurrences(0, -9)", x.occurrences(0, -9), -3);
        due("occurrences(0, MAX)", x.occurrences(0, Integer.MAX_VALUE), -3);
        due("occurrences(1, 0)", x.occurrences(1, 0), -3);
        due("occurrences(6, 9)", x.occurrences(6, 9), -2);
        due("occurrences(-1, 0)", x.occurrences(-1, 0), -2);
    }

    private static void better(String first, String second) {
        PatternLanguages x = withLetters(3, first, second);
        due(first + " against " + second, x.compareQuality(0, 1), 2);
        due(second + " against " + first, x.compareQuality(1, 0), 0);
        due(first + " against itself", x.compareQuality(0, 0), 1);
    }

    private static void compareQuality() {
        promise = 12;
        better("XYZW", "abc");
        better("abX", "aXX");
        better("cXX", "aXY");
        better("aXX", "bXX");
        better("aXX", "XaX");
        better("abc", "acb");
        better("XXY", "XYX");
        better("XYX", "XYY");
        better("cXYX", "cXYY");
        PatternLanguages x = with("aXbX", "aYbY");
        due("equal patterns", x.compareQuality(0, 1), 1);
        due("compareQuality(0, 6)", x.compareQuality(0, 6), -2);
        due("compareQuality(-1, 0)", x.compareQuality(-1, 0), -2);
    }

    private static void replace() {
        promise = 13;
        PatternLanguages x = with("XaYXZ");
        due("replace(0, 0, 1)", x.replace(0, 0, 1), 2);
        due("register 0", pattern(x, 0), "baXbY");
        due("replace(0, 2, 0)", x.replace(0, 2, 0), -3);
        due("replace(0, 1, 2), no letter", x.replace(0, 1, 2), -1);
        due("replace(0, 1, -1), no letter", x.replace(0, 1, -1), -1);
        due("replace(0, 1, 10), no letter", x.replace(0, 1, 10), -1);
        due("replace(0, 9, 9), variable first", x.replace(0, 9, 9), -3);
        due("replace(0, -10, 1)", x.replace(0, -10, 1), -3);
        due("replace(6, 9, 9), register first", x.replace(6, 9, 9), -2);
        due("replace(-1, 0, 0)", x.replace(-1, 0, 0), -2);
        due("register 0 stays", pattern(x, 0), "baXbY");
        due("replace(0, 1, 0)", x.replace(0, 1, 0), 1);
        due("replace(0, 0, 0)", x.replace(0, 0, 0), 0);
        due("register 0", pattern(x, 0), "baaba");
        x.reset(3);
        due("replace(0, 0, 2) with 3 letters", x.replace(0, 0, 2), 0);
        due("register 0", pattern(x, 0), "c");
        x.reset(1);
        due("replace(0, 0, 1) with 1 letter", x.replace(0, 0, 1), -1);
    }

    private static void merge() {
        promise = 14;
        PatternLanguages x = with("XaYZX", "XYZW", "ab");
        due("merge(0, 0, 2)", x.merge(0, 0, 2), 2);
        due("register 0", pattern(x, 0), "XaYXX");
        due("merge(1, 2, 0)", x.merge(1, 2, 0), 3);
        due("register 1", pattern(x, 1), "XYXZ");
        due("merge(1, 0, 1)", x.merge(1, 0, 1), 2);
        due("register 1", pattern(x, 1), "XXXY");
        due("merge(1, 0, 0)", x.merge(1, 0, 0), -1);
        due("merge(1, 2, 2), variable first", x.merge(1, 2, 2), -3);
        due("merge(1, 0, 2)", x.merge(1, 0, 2), -3);
        due("merge(1, 3, 0)", x.merge(1, 3, 0), -3);
        due("merge(1, -1, 0)", x.merge(1, -1, 0), -3);
        due("merge(1, 0, -10)", x.merge(1, 0, -10), -3);
        due("merge(2, 0, 0)", x.merge(2, 0, 0), -3);
        due("merge(6, 9, 9)", x.merge(6, 9, 9), -2);
        due("merge(-1, 0, 1)", x.merge(-1, 0, 1), -2);
        due("register 1 stays", pattern(x, 1), "XXXY");
        due("merge(1, 1, 0)", x.merge(1, 1, 0), 1);
        due("register 1", pattern(x, 1), "XXXX");
    }

    private static void split() {
        promise = 15;
        PatternLanguages x = with("XYaX", "XYZW", "XXXXX", "XXXX", "aXYZbab");
        due("split(0, 0)", x.split(0, 0), 6);
        due("register 0", pattern(x, 0), "XYZaXY");
        due("split(0, 1)", x.split(0, 1), 8);
        due("register 0", pattern(x, 0), "XYZWaXYZ");
        due("split(0, 3), 4 variables", x.split(0, 3), -4);
        due("split(1, 0), 4 variables", x.split(1, 0), -4);
        due("split(2, 0), 10 symbols", x.split(2, 0), -4);
        due("register 2 stays", pattern(x, 2), "XXXXX");
        due("split(3, 0), 8 symbols", x.split(3, 0), 8);
        due("register 3", pattern(x, 3), "XYXYXYXY");
        due("split(3, 1), 12 symbols", x.split(3, 1), -4);
        due("split(4, 1), 8 symbols", x.split(4, 1), 8);
        due("register 4", pattern(x, 4), "aXYZWbab");
        due("split(3, 2)", x.split(3, 2), -3);
        due("split(3, -10)", x.split(3, -10), -3);
        due("split(1, 4), variable first", x.split(1, 4), -3);
        due("split(6, 9)", x.split(6, 9), -2);
        due("split(-1, 0)", x.split(-1, 0), -2);
        due("split(5, 0)", x.split(5, 0), 2);
        due("register 5", pattern(x, 5), "XY");
    }

    private static void change(int letters, String from, String word, String to) {
        PatternLanguages x = withLetters(letters, from);
        due(word + " of " + from, type(x, word).transform(0), to.length());
        due(word + " of " + from, pattern(x, 0), to);
        due(word + " is consumed", x.clearInput(), 0);
    }

    private static void transform() {
        promise = 16;
        change(2, "aXYbX", "reverse", "XbYXa");
        change(2, "XYZ", "reverse", "XYZ");
        change(2, "XXYa", "reverse", "aXYY");
        change(3, "abcXa", "swap", "bacXb");
        change(2, "aabX", "swap", "bbaX");
        change(1, "aXa", "swap", "aXa");
        change(2, "aXYb", "drop", "aXY");
        change(2, "aX", "drop", "a");
        change(2, "b", "drop", "b");
        change(2, "X", "drop", "X");
        change(2, "aXYbZ", "collapse", "aXXbX");
        change(2, "ab", "collapse", "ab");
        change(3, "aXYbcZX", "forget", "XXYXXZX");
        change(2, "ab", "forget", "XX");
        change(2, "XbYY", "forget", "XXYY");
        PatternLanguages x = with("aXb");
        String[] bad = {"", "Swap", "swa", "swapp", " swap", "drop ", "reversee", "dropdrop", "aXb", "forge"};
        for (String word : bad) {
            due("transform by '" + word + "'", type(x, word).transform(0), -5);
            due("consumed after '" + word + "'", x.clearInput(), 0);
        }
        due("register 0 stays", pattern(x, 0), "aXb");
        due("register 6", type(x, "drop").transform(6), -2);
        due("consumed without register", x.clearInput(), 0);
        due("register -1 before BAD_INPUT", type(x, "?").transform(-1), -2);
    }

    private static void matching(String pattern, String word, int mode, int count) {
        PatternLanguages x = withLetters(3, pattern);
        due("matches of " + pattern + " on '" + word + "' in " + mode,
                type(x, word).matches(0, mode), Math.min(count, 1));
        due("consumed", x.clearInput(), 0);
        due("matchCount of " + pattern + " on '" + word + "' in " + mode,
                type(x, word).matchCount(0, mode), count);
        due("consumed", x.clearInput(), 0);
    }

    private static void matches() {
        promise = 17;
        matching("X", "", 0, 0);
        matching("X", "", 1, 1);
        matching("X", "abcabcab", 0, 1);
        matching("XX", "abab", 0, 1);
        matching("XX", "aba", 1, 0);
        matching("XX", "", 1, 1);
        matching("abc", "abc", 0, 1);
        matching("abc", "abc", 1, 1);
        matching("abc", "ab", 1, 0);
        matching("ab", "abc", 1, 0);
        matching("XaX", "bab", 0, 1);
        matching("XaX", "a", 0, 0);
        matching("XaX", "a", 1, 1);
        matching("XaX", "aaaaaaa", 1, 1);
        matching("aXbX", "acbc", 0, 1);
        matching("aXbX", "acbb", 0, 0);
        PatternLanguages x = with("aX");
        due("c with 2 letters", type(x, "ac").matches(0, 0), -5);
        due("consumed", x.clearInput(), 0);
        due("9 letters", type(x, "aaaaaaaaa").matches(0, 0), -5);
        due("8 letters", type(x, "aaaaaaaa").matches(0, 0), 1);
        due("a variable", type(x, "aX").matches(0, 0), -5);
        due("mode 2", type(x, "ab").matches(0, 2), -1);
        due("consumed", x.clearInput(), 0);
        due("mode -1 before BAD_INPUT", type(x, "?").matches(0, -1), -1);
        due("register 6 before mode", type(x, "ab").matches(6, 2), -2);
        due("consumed", x.clearInput(), 0);
        due("register -1", type(x, "ab").matches(-1, 0), -2);
    }

    private static void matchCount() {
        promise = 18;
        matching("XY", "aaa", 0, 2);
        matching("XY", "aaa", 1, 4);
        matching("XYZW", "aaaaaaaa", 0, 35);
        matching("XYZW", "aaaaaaaa", 1, 165);
        matching("XYZW", "", 1, 1);
        matching("XYX", "aaaa", 0, 1);
        matching("XYX", "aaaa", 1, 3);
        matching("XYX", "abca", 1, 2);
        matching("XaY", "aaa", 1, 3);
        matching("XaY", "aaa", 0, 1);
        matching("XYXY", "abab", 1, 3);
        matching("XXYY", "aaaaaaaa", 1, 5);
        PatternLanguages x = with("aX");
        due("c with 2 letters", type(x, "ac").matchCount(0, 0), -5);
        due("consumed", x.clearInput(), 0);
        due("mode 2 before BAD_INPUT", type(x, "?").matchCount(0, 2), -1);
        due("consumed", x.clearInput(), 0);
        due("register 6 before mode", type(x, "ab").matchCount(6, 2), -2);
        due("consumed", x.clearInput(), 0);
        due("register -1", type(x, "ab").matchCount(-1, 0), -2);
    }

    private static void match() {
        promise = 19;
        PatternLanguages x = with("aXbYX", "ab", "XYZW", "XaY");
        type(x, "bb").setImage(2);
        due("aXbYX on aabbba", type(x, "aabbba").match(0, 0), 1);
        due("image X", image(x, 0), "a");
        due("image Y", image(x, 1), "bb");
        due("image Z stays", image(x, 2), "bb");
        due("image W stays", image(x, 3), "a");
        due("aXbYX on bb", type(x, "bb").match(0, 1), -6);
        due("consumed", x.clearInput(), 0);
        due("image Y stays without match", image(x, 1), "bb");
        due("aXbYX on ab, erasing", type(x, "ab").match(0, 1), 0);
        due("image X", image(x, 0), "");
        due("image Y", image(x, 1), "");
        type(x, "bbb").setImage(0);
        due("ab on ab", type(x, "ab").match(1, 0), 0);
        due("image X stays", image(x, 0), "bbb");
        due("ab on a", type(x, "a").match(1, 0), -6);
        due("XYZW on abababab", type(x, "abababab").match(2, 0), 1);
        due("image X", image(x, 0), "a");
        due("image Y", image(x, 1), "b");
        due("image Z", image(x, 2), "a");
        due("image W", image(x, 3), "babab");
        due("XYZW on ba, erasing", type(x, "ba").match(2, 1), 0);
        due("image Z", image(x, 2), "");
        due("image W", image(x, 3), "ba");
        due("XaY on bbabab", type(x, "bbabab").match(3, 0), 2);
        due("image X", image(x, 0), "bb");
        due("image Y", image(x, 1), "bab");
        due("XaY on bba", type(x, "bba").match(3, 0), -6);
        due("XaY on bba, erasing", type(x, "bba").match(3, 1), 2);
        due("image Y", image(x, 1), "");
        due("c with 2 letters", type(x, "c").match(3, 1), -5);
        due("consumed", x.clearInput(), 0);
        due("mode 2 before BAD_INPUT", type(x, "?").match(0, 2), -1);
        due("consumed", x.clearInput(), 0);
        due("register 6 before mode", type(x, "ab").match(6, 2), -2);
        due("consumed", x.clearInput(), 0);
        due("register -1", type(x, "ab").match(-1, 0), -2);
        due("image X stays", image(x, 0), "bb");
    }

    private static void setImage() {
        promise = 20;
        PatternLanguages x = new PatternLanguages();
        due("setImage(3)", type(x, "abababab").setImage(3), 8);
        due("image W", image(x, 3), "abababab");
        due("consumed", x.clearInput(), 0);
        due("setImage(0), empty", x.setImage(0), 0);
        due("image X", image(x, 0), "");
        due("9 letters", type(x, "aaaaaaaaa").setImage(1), -5);
        due("consumed", x.clearInput(), 0);
        due("c with 2 letters", type(x, "c").setImage(1), -5);
        due("a variable", type(x, "X").setImage(1), -5);
        due("image Y stays", image(x, 1), "a");
        due("setImage(4)", type(x, "b").setImage(4), -3);
        due("consumed", x.clearInput(), 0);
        due("setImage(-1) before BAD_INPUT", type(x, "?").setImage(-1), -3);
        x.reset(3);
        due("c with 3 letters", type(x, "cb").setImage(2), 2);
        due("image Z", image(x, 2), "cb");
    }

    private static void imageLetter() {
        promise = 21;
        PatternLanguages x = withLetters(3);
        type(x, "cab").setImage(1);
        due("imageLetter(1, 0)", x.imageLetter(1, 0), 2);
        due("imageLetter(1, 1)", x.imageLetter(1, 1), 0);
        due("imageLetter(1, 2)", x.imageLetter(1, 2), 1);
        due("imageLetter(1, 3)", x.imageLetter(1, 3), -6);
        due("imageLetter(1, -1)", x.imageLetter(1, -1), -6);
        due("imageLetter(1, MAX)", x.imageLetter(1, Integer.MAX_VALUE), -6);
        due("imageLetter(4, 99)", x.imageLetter(4, 99), -3);
        due("imageLetter(-1, 0)", x.imageLetter(-1, 0), -3);
        x.setImage(1);
        due("imageLetter(1, 0) of the empty word", x.imageLetter(1, 0), -6);
    }

    private static void addProduced() {
        promise = 22;
        PatternLanguages x = with("aXbYX", "XXXX", "XX", "aaXYbbbb");
        type(x, "ba").setImage(0);
        due("addProduced(0)", x.addProduced(0), 1);
        due("sample", sample(x), "abababa");
        due("addProduced(1), 8 letters", x.addProduced(1), 2);
        due("sample", sample(x), "abababa,babababa");
        due("addProduced(3), 9 letters", x.addProduced(3), -4);
        due("sampleSize()", x.sampleSize(), 2);
        x.setImage(0);
        due("addProduced(2), the empty word", x.addProduced(2), 3);
        due("sampleCode(2)", x.sampleCode(2), 0);
        due("addProduced(3), 7 letters", x.addProduced(3), 4);
        due("addProduced(6)", x.addProduced(6), -2);
        due("addProduced(-1)", x.addProduced(-1), -2);
        x.addProduced(2);
        due("addProduced(2)", x.addProduced(2), 6);
        due("addProduced(2), 6 words", x.addProduced(2), -4);
        due("addProduced(6), 6 words", x.addProduced(6), -2);
        x = with("ZaY");
        type(x, "b").setImage(0);
        type(x, "bb").setImage(1);
        x.addProduced(0);
        due("images by the numbers of the renamed variables", sample(x), "babb");
        x.replace(0, 0, 0);
        x.addProduced(0);
        due("images stay with their numbers", sample(x), "babb,aab");
    }

    private static void addWord() {
        promise = 23;
        PatternLanguages x = new PatternLanguages();
        due("addWord()", type(x, "ab").addWord(), 1);
        due("consumed", x.clearInput(), 0);
        due("addWord(), empty", x.addWord(), 2);
        due("addWord(), 8 letters", type(x, "bbbbbbbb").addWord(), 3);
        due("addWord(), 9 letters", type(x, "bbbbbbbbb").addWord(), -5);
        due("consumed", x.clearInput(), 0);
        due("addWord(), c", type(x, "c").addWord(), -5);
        due("addWord(), X", type(x, "X").addWord(), -5);
        due("addWord(), the same again", type(x, "ab").addWord(), 4);
        due("addWord()", type(x, "b").addWord(), 5);
        due("addWord()", type(x, "a").addWord(), 6);
        due("addWord(), 6 words", type(x, "a").addWord(), -4);
        due("consumed", x.clearInput(), 0);
        due("addWord(), input first", type(x, "?").addWord(), -5);
        due("sample", sample(x), "ab,,bbbbbbbb,ab,b,a");
    }

    private static void removeWord() {
        promise = 24;
        PatternLanguages x = withSample(2, "a", "b", "ab", "ba", "aa", "bb");
        due("removeWord(6)", x.removeWord(6), -6);
        due("removeWord(-1)", x.removeWord(-1), -6);
        due("removeWord(1)", x.removeWord(1), 5);
        due("sample", sample(x), "a,ab,ba,aa,bb");
        due("removeWord(5)", x.removeWord(5), -6);
        due("removeWord(4)", x.removeWord(4), 4);
        due("removeWord(0)", x.removeWord(0), 3);
        due("sample", sample(x), "ab,ba,aa");
        due("addWord()", type(x, "b").addWord(), 4);
        due("sample", sample(x), "ab,ba,aa,b");
        for (int left = 3; left >= 0; left--) {
            due("removeWord(0)", x.removeWord(0), left);
        }
        due("removeWord(0)", x.removeWord(0), -6);
    }

    private static void sampleSize() {
        promise = 25;
        PatternLanguages x = withSample(2, "a", "", "a");
        due("sampleSize()", x.sampleSize(), 3);
        x.removeWord(0);
        due("sampleSize()", x.sampleSize(), 2);
        x.reset(2);
        due("sampleSize()", x.sampleSize(), 0);
    }

    private static void sampleCode() {
        promise = 26;
        PatternLanguages x = withSample(3, "", "a", "b", "c", "abc", "cccccccc");
        due("sampleCode(0)", x.sampleCode(0), 0);
        due("sampleCode(1)", x.sampleCode(1), 1);
        due("sampleCode(2)", x.sampleCode(2), 2);
        due("sampleCode(3)", x.sampleCode(3), 3);
        due("sampleCode(4)", x.sampleCode(4), 1 + 2 * 4 + 3 * 16);
        due("sampleCode(5)", x.sampleCode(5), 65535);
        due("sampleCode(6)", x.sampleCode(6), NO_VALUE);
        due("sampleCode(-1)", x.sampleCode(-1), NO_VALUE);
        x.removeWord(5);
        due("sampleCode(5)", x.sampleCode(5), NO_VALUE);
    }

    private static void firstMisfit() {
        promise = 27;
        PatternLanguages x = withSample(2, "aba", "aa", "bab", "b");
        type(x, "aXa").setPattern(1);
        type(x, "XYX").setPattern(2);
        type(x, "ab").setPattern(3);
        due("firstMisfit(0, 0)", x.firstMisfit(0, 0), -6);
        due("firstMisfit(1, 0)", x.firstMisfit(1, 0), 1);
        due("firstMisfit(1, 1)", x.firstMisfit(1, 1), 2);
        due("firstMisfit(2, 0)", x.firstMisfit(2, 0), 1);
        due("firstMisfit(2, 1)", x.firstMisfit(2, 1), -6);
        due("firstMisfit(3, 0)", x.firstMisfit(3, 0), 0);
        due("firstMisfit(3, 2)", x.firstMisfit(3, 2), -1);
        due("firstMisfit(3, -1)", x.firstMisfit(3, -1), -1);
        due("firstMisfit(6, 2)", x.firstMisfit(6, 2), -2);
        due("firstMisfit(-1, 0)", x.firstMisfit(-1, 0), -2);
        due("without words", with("ab").firstMisfit(0, 0), -6);
    }

    private static void general(String general, String special, int mode, int want) {
        PatternLanguages x = with(general, special);
        due(general + " over " + special + " in " + mode, x.isMoreGeneral(0, 1, mode), want);
    }

    private static void isMoreGeneral() {
        promise = 28;
        general("X", "aXbYabab", 0, 1);
        general("XY", "X", 0, 0);
        general("XY", "X", 1, 1);
        general("X", "XY", 0, 1);
        general("XX", "XYXY", 0, 1);
        general("XX", "XYYX", 0, 0);
        general("XX", "XYXYXYXY", 0, 1);
        general("aX", "XX", 1, 0);
        general("aX", "aaX", 0, 1);
        general("aX", "a", 0, 0);
        general("aX", "a", 1, 1);
        general("XYX", "XX", 0, 0);
        general("XYX", "XX", 1, 1);
        general("XY", "XX", 0, 1);
        general("XX", "XY", 1, 0);
        general("ab", "ab", 0, 1);
        general("ab", "aX", 1, 0);
        general("XYZW", "WZYX", 0, 1);
        PatternLanguages x = with("X");
        due("isMoreGeneral(0, 0, 2)", x.isMoreGeneral(0, 0, 2), -1);
        due("isMoreGeneral(0, 0, -1)", x.isMoreGeneral(0, 0, -1), -1);
        due("isMoreGeneral(6, 0, 2)", x.isMoreGeneral(6, 0, 2), -2);
        due("isMoreGeneral(0, -1, 2)", x.isMoreGeneral(0, -1, 2), -2);
    }

    private static void chainBreak() {
        promise = 29;
        PatternLanguages x = with("X", "XY", "XYX", "XaX", "bab", "ab");
        due("chainBreak(0, 4, 0)", x.chainBreak(0, 4, 0), -6);
        due("chainBreak(0, 5, 0)", x.chainBreak(0, 5, 0), 4);
        due("chainBreak(0, 4, 1)", x.chainBreak(0, 4, 1), 0);
        due("chainBreak(1, 4, 1), XY and XYX are equivalent", x.chainBreak(1, 4, 1), 1);
        due("chainBreak(2, 4, 1)", x.chainBreak(2, 4, 1), -6);
        due("chainBreak(3, 3, 0)", x.chainBreak(3, 3, 0), -6);
        due("chainBreak(5, 5, 1)", x.chainBreak(5, 5, 1), -6);
        x.copy(1, 0);
        due("chainBreak(0, 1, 0), equal patterns", x.chainBreak(0, 1, 0), 0);
        due("chainBreak(1, 0, 0)", x.chainBreak(1, 0, 0), -1);
        due("chainBreak(0, 1, 2)", x.chainBreak(0, 1, 2), -1);
        due("chainBreak(0, 1, -1)", x.chainBreak(0, 1, -1), -1);
        due("chainBreak(0, 6, 2)", x.chainBreak(0, 6, 2), -2);
        due("chainBreak(-1, 0, 0)", x.chainBreak(-1, 0, 0), -2);
        due("chainBreak(6, 0, 0)", x.chainBreak(6, 0, 0), -2);
    }

    private static void found(PatternLanguages x, int length, int mode, String want) {
        int letters = want.replaceAll("[XYZW]", "").length();
        due("findPattern(2, " + length + ", " + mode + ")", x.findPattern(2, length, mode), letters);
        due("the pattern of length " + length + " in " + mode, pattern(x, 2), want);
    }

    private static void findPattern() {
        promise = 30;
        PatternLanguages x = withSample(2, "abab", "aaaa");
        found(x, 4, 0, "aXaX");
        found(x, 3, 0, "aXY");
        found(x, 1, 0, "X");
        x = withSample(2);
        found(x, 5, 0, "aaaaa");
        found(x, 1, 1, "a");
        x = withSample(2, "ab", "ba");
        due("findPattern(2, 3, 0)", x.findPattern(2, 3, 0), -6);
        due("the register stays", pattern(x, 2), "X");
        found(x, 2, 0, "XY");
        found(x, 3, 1, "XaY");
        found(x, 5, 1, "XaYYZ");
        x = withSample(3, "abc", "abcabc");
        found(x, 3, 0, "abX");
        found(x, 5, 1, "abcXY");
        x = withSample(2, "abbab", "babba", "aabba", "bbaab", "babab", "aaaab");
        due("findPattern(2, 6, 0)", x.findPattern(2, 6, 0), -1);
        due("findPattern(2, 0, 0)", x.findPattern(2, 0, 0), -1);
        due("findPattern(2, 5, 2)", x.findPattern(2, 5, 2), -1);
        due("findPattern(2, 5, -1)", x.findPattern(2, 5, -1), -1);
        due("findPattern(6, 9, 9)", x.findPattern(6, 9, 9), -2);
        due("findPattern(-1, 1, 0)", x.findPattern(-1, 1, 0), -2);
        due("findPattern(2, 5, 0), five variables would be needed", x.findPattern(2, 5, 0), -6);
        due("the register stays", pattern(x, 2), "X");
    }

    private static void longest(PatternLanguages x, String want) {
        due("findOneVariable(4)", x.findOneVariable(4), want.length());
        due("the pattern", pattern(x, 4), want);
    }

    private static void findOneVariable() {
        promise = 31;
        longest(withSample(2), "aaaaaaX");
        longest(withSample(2, "abab", "aaaa"), "aXaX");
        longest(withSample(2, "a"), "X");
        longest(withSample(2, "aaaaaaaa"), "aaaaaaX");
        longest(withSample(2, "bbbbbbb"), "bbbbbbX");
        longest(withSample(2, "ab", "ba"), "X");
        longest(withSample(2, "aab", "bbb"), "XXb");
        longest(withSample(3, "cabcab", "ccabcc"), "cX");
        PatternLanguages x = withSample(2, "abab", "aaaa");
        longest(x, "aXaX");
        longest(x, "aXaX");
        found(x, 4, 0, "aXaX");
        type(x, "bb").addWord();
        longest(x, "XX");
        x = withSample(2, "ab", "");
        type(x, "ab").setPattern(4);
        due("findOneVariable(4), an empty word", x.findOneVariable(4), -6);
        due("the register stays", pattern(x, 4), "ab");
        due("findOneVariable(6)", x.findOneVariable(6), -2);
        due("findOneVariable(-1)", x.findOneVariable(-1), -2);
    }

    private static void countWords() {
        promise = 32;
        PatternLanguages x = withLetters(3, "X", "XX", "aXb", "ab", "XY", "XaY");
        due("countWords(0, 0, 0)", x.countWords(0, 0, 0), 0);
        due("countWords(0, 1, 0)", x.countWords(0, 1, 0), 1);
        due("countWords(0, 0, 6)", x.countWords(0, 0, 6), 729);
        due("countWords(1, 0, 6)", x.countWords(1, 0, 6), 27);
        due("countWords(1, 0, 5)", x.countWords(1, 0, 5), 0);
        due("countWords(2, 0, 2)", x.countWords(2, 0, 2), 0);
        due("countWords(2, 1, 2)", x.countWords(2, 1, 2), 1);
        due("countWords(2, 0, 4)", x.countWords(2, 0, 4), 9);
        due("countWords(3, 0, 2)", x.countWords(3, 0, 2), 1);
        due("countWords(3, 1, 3)", x.countWords(3, 1, 3), 0);
        due("countWords(4, 0, 1)", x.countWords(4, 0, 1), 0);
        due("countWords(4, 0, 3)", x.countWords(4, 0, 3), 27);
        due("countWords(5, 1, 3)", x.countWords(5, 1, 3), 27 - 8);
        due("countWords(5, 0, 3)", x.countWords(5, 0, 3), 9);
        due("countWords(0, 2, 0)", x.countWords(0, 2, 0), -1);
        due("countWords(0, -1, 0)", x.countWords(0, -1, 0), -1);
        due("countWords(0, 0, 7)", x.countWords(0, 0, 7), -1);
        due("countWords(0, 0, -1)", x.countWords(0, 0, -1), -1);
        due("countWords(6, 2, 7)", x.countWords(6, 2, 7), -2);
        due("countWords(-1, 0, 0)", x.countWords(-1, 0, 0), -2);
        x.reset(1);
        due("countWords(0, 0, 6) with 1 letter", x.countWords(0, 0, 6), 1);
        x.reset(2);
        due("countWords(0, 0, 6) with 2 letters", x.countWords(0, 0, 6), 64);
    }

    private static void difference() {
        promise = 33;
        PatternLanguages x = with("X", "aX", "XX", "XY", "aXb", "Xb");
        due("difference(0, 1, 0, 6)", x.difference(0, 1, 0, 6), code("a"));
        due("difference(0, 1, 1, 6)", x.difference(0, 1, 1, 6), code(""));
        due("difference(0, 2, 1, 6)", x.difference(0, 2, 1, 6), code("a"));
        due("difference(3, 2, 0, 6)", x.difference(3, 2, 0, 6), code("ab"));
        due("difference(1, 4, 0, 6)", x.difference(1, 4, 0, 6), code("aa"));
        due("difference(5, 4, 0, 6)", x.difference(5, 4, 0, 6), code("ab"));
        due("difference(5, 4, 1, 6)", x.difference(5, 4, 1, 6), code("b"));
        due("difference(2, 1, 0, 1)", x.difference(2, 1, 0, 1), NO_VALUE);
        due("difference(2, 1, 0, 2)", x.difference(2, 1, 0, 2), code("bb"));
        due("difference(4, 1, 0, 6)", x.difference(4, 1, 0, 6), NO_VALUE);
        due("difference(0, 0, 1, 6)", x.difference(0, 0, 1, 6), NO_VALUE);
        due("difference(0, 1, 1, 0)", x.difference(0, 1, 1, 0), code(""));
        due("difference(0, 1, 0, 0)", x.difference(0, 1, 0, 0), NO_VALUE);
        due("difference(0, 1, 0, 7)", x.difference(0, 1, 0, 7), NO_VALUE);
        due("difference(0, 1, 0, -1)", x.difference(0, 1, 0, -1), NO_VALUE);
        due("difference(0, 1, 2, 6)", x.difference(0, 1, 2, 6), NO_VALUE);
        due("difference(0, 1, -1, 6)", x.difference(0, 1, -1, 6), NO_VALUE);
        due("difference(6, 1, 0, 6)", x.difference(6, 1, 0, 6), NO_VALUE);
        due("difference(0, 6, 0, 6)", x.difference(0, 6, 0, 6), NO_VALUE);
        due("difference(-1, 1, 0, 6)", x.difference(-1, 1, 0, 6), NO_VALUE);
        due("difference(0, -1, 0, 6)", x.difference(0, -1, 0, 6), NO_VALUE);
        x = withLetters(3, "XcYcZc", "XccYZc");
        due("a long word", x.difference(0, 1, 0, 6), code("acacac"));
        due("a limit below it", x.difference(0, 1, 0, 5), NO_VALUE);
    }

    private static void allocate() {
        promise = 34;
        PatternLanguages x = new PatternLanguages();
        for (int type = 0; type <= 3; type++) {
            due("allocate of type " + type, x.allocate(type, type, 40), 40);
            due("element(" + type + ", 0)", x.element(type, 0), 0);
            due("element(" + type + ", 39)", x.element(type, 39), 0);
        }
        due("allocate(0, 2, 0)", x.allocate(0, 2, 0), 0);
        due("element(0, 0) of an empty array", x.element(0, 0), NO_VALUE);
        due("release(0) of an empty array", x.release(0), 1);
        x.putElement(2, 1, 5);
        due("allocate(2, 2, 2)", x.allocate(2, 2, 2), 2);
        due("element(2, 1) of the new array", x.element(2, 1), 0);
        due("element(2, 2) of the new array", x.element(2, 2), NO_VALUE);
        x.putElement(2, 1, 6);
        due("allocate(2, 2, 41)", x.allocate(2, 2, 41), -1);
        due("allocate(2, 4, 1)", x.allocate(2, 4, 1), -1);
        due("allocate(2, -1, 1)", x.allocate(2, -1, 1), -1);
        due("allocate(4, 0, 1)", x.allocate(4, 0, 1), -1);
        due("allocate(-1, 0, 1)", x.allocate(-1, 0, 1), -1);
        due("allocate(2, 2, -1)", x.allocate(2, 2, -1), -14);
        due("allocate(2, 2, MIN)", x.allocate(2, 2, Integer.MIN_VALUE), -14);
        due("allocate(2, 4, -1), the argument first", x.allocate(2, 4, -1), -1);
        due("allocate(4, 0, -1), the argument first", x.allocate(4, 0, -1), -1);
        due("element(2, 1) stays", x.element(2, 1), 6);
    }

    private static void release() {
        promise = 35;
        PatternLanguages x = new PatternLanguages();
        due("release(3)", x.release(3), 0);
        x.allocate(3, 1, 2);
        due("release(3)", x.release(3), 1);
        due("release(3)", x.release(3), 0);
        due("element(3, 0)", x.element(3, 0), NO_VALUE);
        due("release(4)", x.release(4), -1);
        due("release(-1)", x.release(-1), -1);
    }

    private static void put(int type, long value, long want) {
        PatternLanguages x = new PatternLanguages();
        x.allocate(0, type, 3);
        due("putElement(0, 2, " + value + ") of type " + type, x.putElement(0, 2, value), 1);
        due("element(0, 2) of type " + type, x.element(0, 2), want);
        due("element(0, 1) of type " + type, x.element(0, 1), 0);
    }

    private static void putElement() {
        promise = 36;
        put(0, 127, 127);
        put(0, 128, -128);
        put(0, -1, -1);
        put(0, 256, 0);
        put(0, 0x1234567890L, (byte) 0x90);
        put(1, 65535, 65535);
        put(1, 65536, 0);
        put(1, -1, 65535);
        put(2, Integer.MAX_VALUE, Integer.MAX_VALUE);
        put(2, 1L << 31, Integer.MIN_VALUE);
        put(2, 1L << 32, 0);
        put(2, -1, -1);
        put(3, 1, 1);
        put(3, 0, 0);
        put(3, 2, 1);
        put(3, 1L << 32, 1);
        put(3, Long.MIN_VALUE, 1);
        PatternLanguages x = new PatternLanguages();
        x.allocate(0, 0, 3);
        due("putElement(0, 3, 1)", x.putElement(0, 3, 1), -13);
        due("putElement(0, -1, 1)", x.putElement(0, -1, 1), -13);
        due("putElement(0, MAX, 1)", x.putElement(0, Integer.MAX_VALUE, 1), -13);
        due("putElement(1, 9, 1)", x.putElement(1, 9, 1), -11);
        due("putElement(4, 9, 1)", x.putElement(4, 9, 1), -1);
        due("putElement(-1, 0, 1)", x.putElement(-1, 0, 1), -1);
    }

    private static void element() {
        promise = 37;
        PatternLanguages x = new PatternLanguages();
        x.allocate(1, 2, 3);
        x.putElement(1, 0, -1);
        x.putElement(1, 2, -6);
        due("element(1, 0)", x.element(1, 0), -1);
        due("element(1, 2)", x.element(1, 2), -6);
        due("element(1, 3)", x.element(1, 3), NO_VALUE);
        due("element(1, -1)", x.element(1, -1), NO_VALUE);
        due("element(0, 0)", x.element(0, 0), NO_VALUE);
        due("element(4, 0)", x.element(4, 0), NO_VALUE);
        due("element(-1, 0)", x.element(-1, 0), NO_VALUE);
    }

    private static String elements(PatternLanguages x, int slot) {
        StringBuilder text = new StringBuilder();
        for (int i = 0; x.element(slot, i) != NO_VALUE; i++) {
            text.append(x.element(slot, i)).append(' ');
        }
        return text.toString().trim();
    }

    private static void copyElements() {
        promise = 38;
        PatternLanguages x = new PatternLanguages();
        x.allocate(0, 2, 6);
        x.allocate(1, 2, 3);
        x.allocate(2, 0, 6);
        for (int i = 0; i < 6; i++) {
            x.putElement(0, i, i + 1);
        }
        due("copyElements(0, 2, 1, 1, 2)", x.copyElements(0, 2, 1, 1, 2), 2);
        due("slot 1", elements(x, 1), "0 3 4");
        due("copyElements(0, 0, 0, 2, 4)", x.copyElements(0, 0, 0, 2, 4), 4);
        due("slot 0, overlapping to the right", elements(x, 0), "1 2 1 2 3 4");
        due("copyElements(0, 1, 0, 0, 5)", x.copyElements(0, 1, 0, 0, 5), 5);
        due("slot 0, overlapping to the left", elements(x, 0), "2 1 2 3 4 4");
        due("copyElements(0, 6, 1, 3, 0)", x.copyElements(0, 6, 1, 3, 0), 0);
        due("copyElements(0, 7, 1, 0, 0)", x.copyElements(0, 7, 1, 0, 0), -13);
        due("copyElements(0, 0, 1, 4, 0)", x.copyElements(0, 0, 1, 4, 0), -13);
        due("copyElements(0, 5, 1, 0, 2)", x.copyElements(0, 5, 1, 0, 2), -13);
        due("copyElements(0, 0, 1, 2, 2)", x.copyElements(0, 0, 1, 2, 2), -13);
        due("copyElements(0, -1, 1, 0, 1)", x.copyElements(0, -1, 1, 0, 1), -13);
        due("copyElements(0, 0, 1, -1, 1)", x.copyElements(0, 0, 1, -1, 1), -13);
        due("copyElements(0, 0, 1, 0, -1)", x.copyElements(0, 0, 1, 0, -1), -13);
        int most = Integer.MAX_VALUE;
        due("copyElements(0, MAX, 1, MAX, MAX)", x.copyElements(0, most, 1, most, most), -13);
        due("copyElements(0, 1, 1, 0, MAX)", x.copyElements(0, 1, 1, 0, most), -13);
        due("copyElements(0, MAX, 1, 0, 1)", x.copyElements(0, most, 1, 0, 1), -13);
        due("copyElements(0, 99, 2, 0, 1), type first", x.copyElements(0, 99, 2, 0, 1), -12);
        due("copyElements(0, 0, 3, 0, 1)", x.copyElements(0, 0, 3, 0, 1), -11);
        due("copyElements(3, 0, 0, 0, -1)", x.copyElements(3, 0, 0, 0, -1), -11);
        due("copyElements(4, 0, 3, 0, 1)", x.copyElements(4, 0, 3, 0, 1), -1);
        due("copyElements(3, 0, -1, 0, 1)", x.copyElements(3, 0, -1, 0, 1), -1);
        due("slot 1 stays", elements(x, 1), "0 3 4");
        due("slot 0 stays", elements(x, 0), "2 1 2 3 4 4");
    }

    private static PatternLanguages withChars(String text) {
        PatternLanguages x = new PatternLanguages();
        x.allocate(2, 1, text.length());
        for (int i = 0; i < text.length(); i++) {
            x.putElement(2, i, text.charAt(i));
        }
        return x;
    }

    private static void loadPattern() {
        promise = 39;
        PatternLanguages x = withChars("ZaWbZ");
        type(x, "ab");
        due("loadPattern(5, 2)", x.loadPattern(5, 2), 5);
        due("register 5", pattern(x, 5), "XaYbX");
        due("the buffer stays", x.clearInput(), 2);
        due("the array stays", x.element(2, 0), 'Z');
        due("8 elements", withChars("aaaaaaaX").loadPattern(0, 2), 8);
        due("9 elements", withChars("aaaaaaaaX").loadPattern(0, 2), -5);
        due("0 elements", withChars("").loadPattern(0, 2), -5);
        due("c with 2 letters", withChars("aXc").loadPattern(0, 2), -5);
        due("an element 0", withChars("aX\0").loadPattern(0, 2), -5);
        due("an element above 127", withChars("a" + (char) (0x100 + 'a')).loadPattern(0, 2), -5);
        due("loadPattern(0, 0)", x.loadPattern(0, 0), -11);
        for (int type = 0; type <= 3; type++) {
            x.allocate(1, type, 1);
            x.putElement(1, 0, 'a');
            due("loadPattern of type " + type, x.loadPattern(0, 1), type == 1 ? 1 : -12);
        }
        due("loadPattern(6, 4)", x.loadPattern(6, 4), -2);
        due("loadPattern(-1, 2)", x.loadPattern(-1, 2), -2);
        due("loadPattern(0, 4)", x.loadPattern(0, 4), -1);
        due("loadPattern(0, -1)", x.loadPattern(0, -1), -1);
        x.putElement(2, 1, '?');
        due("loadPattern(5, 2)", x.loadPattern(5, 2), -5);
        due("the register stays", pattern(x, 5), "XaYbX");
    }

    private static void snapshot() {
        promise = 40;
        PatternLanguages x = withSample(3, "abc", "c");
        due("snapshot()", x.snapshot(), 2);
        x.reset(2);
        type(x, "aXb").setPattern(0);
        type(x, "ba").setImage(1);
        type(x, "bb").addWord();
        due("snapshot(), in place of the earlier one", x.snapshot(), 1);
        x.reset(1);
        due("restore()", x.restore(), 1);
        due("letters()", x.letters(), 2);
        due("register 0", pattern(x, 0), "aXb");
        due("image Y", image(x, 1), "ba");
        due("sample", sample(x), "bb");
        due("snapshot() of a new object", new PatternLanguages().snapshot(), 0);
    }

    private static void restore() {
        promise = 41;
        PatternLanguages x = new PatternLanguages();
        due("restore() without a snapshot", x.restore(), -6);
        x.reset(3);
        for (int r = 0; r < 6; r++) {
            type(x, "cX".repeat(r % 4 + 1)).setPattern(r);
        }
        for (int v = 0; v < 4; v++) {
            type(x, "c".repeat(v)).setImage(v);
        }
        for (int i = 0; i < 6; i++) {
            type(x, "bc".repeat(i % 3)).addWord();
        }
        x.allocate(0, 2, 1);
        x.snapshot();
        for (int r = 0; r < 6; r++) {
            x.replace(r, 0, r % 3);
        }
        for (int v = 0; v < 4; v++) {
            x.setImage(v);
        }
        x.removeWord(0);
        x.removeWord(0);
        x.putElement(0, 0, 9);
        type(x, "ab");
        due("restore()", x.restore(), 6);
        due("clearInput(), the buffer stays", x.clearInput(), 2);
        due("element(0, 0), the array stays", x.element(0, 0), 9);
        due("sample", sample(x), ",bc,bcbc,,bc,bcbc");
        for (int r = 0; r < 6; r++) {
            due("register " + r, pattern(x, r), "cX".repeat(r % 4 + 1));
        }
        for (int v = 0; v < 4; v++) {
            due("image " + v, image(x, v), "c".repeat(v));
        }
        x.removeWord(3);
        x.replace(1, 0, 0);
        due("restore(), the snapshot is still there", x.restore(), 6);
        due("register 1", pattern(x, 1), "cXcX");
        x.reset(1);
        due("restore() after a reset", x.restore(), 6);
        due("letters()", x.letters(), 3);
    }
}
