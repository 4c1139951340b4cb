import java.util.ArrayList;
import java.util.Arrays;
import java.util.LinkedHashMap;
import java.util.LinkedHashSet;
import java.util.List;
import java.util.Map;
import java.util.Random;
import java.util.Set;
import java.util.TreeSet;

/**
 * Compares the program with a second reading of the document: long pseudo-random runs of calls,
 * each answer held against a model that works on texts and by plain enumeration.
 */
public final class ReferenceTest {
    private static final int RUNS = 800;
    /** An object is used for 512 calls; a step with the look at the state after it takes some 170. */
    private static final int LAST_STEP = 512 - 170;
    private static final int SHOWN = 3;

    private static int wrong = 0;

    public static void main(String[] args) {
        for (int run = 1; run <= RUNS && wrong < SHOWN; run++) {
            new Run(run).play();
        }
        System.out.println(wrong == 0 ? "the reference agrees" : wrong + " answers differ from the reference");
        if (wrong != 0) {
            System.exit(1);
        }
    }

    /** One run of calls on a program and a model of its own. */
    private static final class Run {
        final int number;
        final Random random;
        final PatternLanguages program = new PatternLanguages();
        final Model model = new Model();
        final List<String> told = new ArrayList<>();
        boolean differs = false;
        int calls = 0;

        Run(int number) {
            this.number = number;
            this.random = new Random(number);
        }

        void play() {
            while (calls < LAST_STEP && !differs) {
                step();
                if (random.nextInt(8) == 0) {
                    compareState();
                }
            }
            compareState();
            if (calls > 512) {
                throw new IllegalStateException("run " + number + " has " + calls + " calls");
            }
        }

        void check(String call, long got, long want) {
            calls++;
            told.add(call + ": " + got);
            if (got == want || differs) {
                return;
            }
            differs = true;
            wrong++;
            System.out.println("run " + number + ": " + call + " answered " + got + ", the reference " + want);
            for (String line : told) {
                System.out.println("    " + line);
            }
        }

        /** The state is looked at through the calls that change nothing. */
        void compareState() {
            for (int r = 0; r < 6 && !differs; r++) {
                String p = model.registers[r];
                check("length(" + r + ")", program.length(r), p.length());
                for (int i = 0; i < p.length(); i++) {
                    check("symbol(" + r + ", " + i + ")", program.symbol(r, i), Model.code(p.charAt(i)));
                }
            }
            for (int v = 0; v < 4 && !differs; v++) {
                String image = model.images[v];
                for (int i = 0; i <= image.length(); i++) {
                    check("imageLetter(" + v + ", " + i + ")", program.imageLetter(v, i), model.imageLetter(v, i));
                }
            }
            check("sampleSize()", program.sampleSize(), model.sample.size());
            for (int i = 0; i < model.sample.size() && !differs; i++) {
                check("sampleCode(" + i + ")", program.sampleCode(i), Model.wordCode(model.sample.get(i)));
            }
            check("letters()", program.letters(), model.letters);
        }

        int any(int low, int high) {
            return low + random.nextInt(high - low + 1);
        }

        int wild() {
            int[] wilds = {Integer.MIN_VALUE, -11, -10, -2, -1, 4, 6, 7, 8, 10, 13, 41, 128, Integer.MAX_VALUE};
            return wilds[random.nextInt(wilds.length)];
        }

        int pick(int low, int high) {
            return random.nextInt(25) == 0 ? wild() : any(low, high);
        }

        int register() {
            return pick(0, 5);
        }

        int mode() {
            return pick(0, 1);
        }

        void append(int value, int count) {
            check("append(" + value + ", " + count + ")", program.append(value, count), model.append(value, count));
        }

        void type(String text) {
            for (int i = 0; i < text.length(); i++) {
                append(text.charAt(i), 1);
            }
        }

        String randomWord() {
            int size = random.nextInt(15) == 0 ? any(0, 9) : any(0, 8);
            int used = random.nextInt(30) == 0 ? 3 : model.letters;
            StringBuilder text = new StringBuilder();
            boolean plain = random.nextInt(4) == 0;
            for (int i = 0; i < size; i++) {
                text.append((char) ('a' + (plain ? 0 : random.nextInt(used))));
            }
            return text.toString();
        }

        String randomPattern() {
            int size = random.nextInt(15) == 0 ? any(0, 9) : any(1, 8);
            int used = random.nextInt(30) == 0 ? 3 : model.letters;
            int variables = any(1, 4);
            int share = any(1, 3);
            StringBuilder text = new StringBuilder();
            for (int i = 0; i < size; i++) {
                boolean isLetter = random.nextInt(4) < share;
                text.append(isLetter ? (char) ('a' + random.nextInt(used)) : "WYXZ".charAt(random.nextInt(variables)));
            }
            return text.toString();
        }

        /** A word that the pattern of a register has a fair chance to match. */
        String likelyWord(int register) {
            if (register < 0 || register > 5 || random.nextInt(3) == 0) {
                return randomWord();
            }
            Map<Character, String> words = new LinkedHashMap<>();
            for (char c : "XYZW".toCharArray()) {
                StringBuilder text = new StringBuilder();
                int size = any(0, 2);
                for (int i = 0; i < size; i++) {
                    text.append((char) ('a' + random.nextInt(model.letters)));
                }
                words.put(c, text.toString());
            }
            StringBuilder made = new StringBuilder();
            for (char c : model.registers[register].toCharArray()) {
                made.append(words.getOrDefault(c, String.valueOf(c)));
            }
            return made.length() > 8 ? randomWord() : made.toString();
        }

        void step() {
            switch (random.nextInt(12)) {
                case 0:
                    stepOfRegisters();
                    break;
                case 1:
                case 2:
                    stepOfRefinement();
                    break;
                case 3:
                case 4:
                    stepOfMatching();
                    break;
                case 5:
                case 6:
                    stepOfSample();
                    break;
                case 7:
                    stepOfGenerality();
                    break;
                case 8:
                    stepOfLearning();
                    break;
                case 9:
                    stepOfLanguages();
                    break;
                case 10:
                    stepOfArrays();
                    break;
                default:
                    stepOfBench();
            }
        }

        void stepOfRegisters() {
            int r = register();
            int s = register();
            switch (random.nextInt(7)) {
                case 0:
                    check("copy(" + r + ", " + s + ")", program.copy(r, s), model.copy(r, s));
                    break;
                case 1:
                    check("length(" + r + ")", program.length(r), model.length(r));
                    break;
                case 2:
                    int position = pick(0, 8);
                    check("symbol(" + r + ", " + position + ")", program.symbol(r, position), model.symbol(r, position));
                    break;
                case 3:
                    check("variableCount(" + r + ")", program.variableCount(r), model.variableCount(r));
                    break;
                case 4:
                    int variable = pick(0, 3);
                    check("occurrences(" + r + ", " + variable + ")", program.occurrences(r, variable),
                            model.occurrences(r, variable));
                    break;
                case 5:
                    check("compareQuality(" + r + ", " + s + ")", program.compareQuality(r, s),
                            model.compareQuality(r, s));
                    break;
                default:
                    type(randomPattern());
                    check("setPattern(" + r + ")", program.setPattern(r), model.setPattern(r));
            }
        }

        void stepOfRefinement() {
            int r = register();
            int v = pick(0, 3);
            switch (random.nextInt(5)) {
                case 0:
                    int letter = pick(0, 2);
                    check("replace(" + r + ", " + v + ", " + letter + ")", program.replace(r, v, letter),
                            model.replace(r, v, letter));
                    break;
                case 1:
                    int other = pick(0, 3);
                    check("merge(" + r + ", " + v + ", " + other + ")", program.merge(r, v, other),
                            model.merge(r, v, other));
                    break;
                case 2:
                    check("split(" + r + ", " + v + ")", program.split(r, v), model.split(r, v));
                    break;
                case 3:
                    String[] words = {"reverse", "swap", "drop", "collapse", "forget", "Forget", "dro", "dropp", "", "a"};
                    type(words[random.nextInt(words.length)]);
                    check("transform(" + r + ")", program.transform(r), model.transform(r));
                    break;
                default:
                    type(randomPattern());
                    check("setPattern(" + r + ")", program.setPattern(r), model.setPattern(r));
            }
        }

        void stepOfMatching() {
            int r = register();
            int mode = mode();
            type(likelyWord(r));
            switch (random.nextInt(3)) {
                case 0:
                    check("matches(" + r + ", " + mode + ")", program.matches(r, mode), model.matches(r, mode));
                    break;
                case 1:
                    check("matchCount(" + r + ", " + mode + ")", program.matchCount(r, mode), model.matchCount(r, mode));
                    break;
                default:
                    check("match(" + r + ", " + mode + ")", program.match(r, mode), model.match(r, mode));
            }
            check("clearInput()", program.clearInput(), model.clearInput());
        }

        void stepOfSample() {
            int r = register();
            int v = pick(0, 3);
            int index = pick(0, 5);
            switch (random.nextInt(7)) {
                case 0:
                    type(randomWord());
                    check("setImage(" + v + ")", program.setImage(v), model.setImage(v));
                    break;
                case 1:
                    check("imageLetter(" + v + ", " + index + ")", program.imageLetter(v, index),
                            model.imageLetter(v, index));
                    break;
                case 2:
                    check("addProduced(" + r + ")", program.addProduced(r), model.addProduced(r));
                    break;
                case 3:
                    type(likelyWord(r));
                    check("addWord()", program.addWord(), model.addWord());
                    break;
                case 4:
                    check("removeWord(" + index + ")", program.removeWord(index), model.removeWord(index));
                    break;
                case 5:
                    check("sampleCode(" + index + ")", program.sampleCode(index), model.sampleCode(index));
                    break;
                default:
                    int mode = mode();
                    check("firstMisfit(" + r + ", " + mode + ")", program.firstMisfit(r, mode),
                            model.firstMisfit(r, mode));
            }
        }

        void stepOfGenerality() {
            int r = register();
            int s = register();
            int mode = mode();
            if (random.nextBoolean()) {
                check("isMoreGeneral(" + r + ", " + s + ", " + mode + ")", program.isMoreGeneral(r, s, mode),
                        model.isMoreGeneral(r, s, mode));
            } else {
                check("chainBreak(" + r + ", " + s + ", " + mode + ")", program.chainBreak(r, s, mode),
                        model.chainBreak(r, s, mode));
            }
        }

        void stepOfLearning() {
            int r = register();
            if (random.nextInt(3) > 0) {
                int length = pick(1, 5);
                int mode = mode();
                check("findPattern(" + r + ", " + length + ", " + mode + ")", program.findPattern(r, length, mode),
                        model.findPattern(r, length, mode));
            } else {
                check("findOneVariable(" + r + ")", program.findOneVariable(r), model.findOneVariable(r));
            }
        }

        void stepOfLanguages() {
            int r = register();
            int s = register();
            int mode = mode();
            int length = pick(0, 6);
            if (random.nextBoolean()) {
                check("countWords(" + r + ", " + mode + ", " + length + ")", program.countWords(r, mode, length),
                        model.countWords(r, mode, length));
            } else {
                check("difference(" + r + ", " + s + ", " + mode + ", " + length + ")",
                        program.difference(r, s, mode, length), model.difference(r, s, mode, length));
            }
        }

        long value() {
            switch (random.nextInt(5)) {
                case 0:
                    return random.nextLong();
                case 1:
                    return 1L << random.nextInt(64);
                case 2:
                    return any(-300, 300);
                default:
                    return "abcXYZW".charAt(random.nextInt(7));
            }
        }

        void stepOfArrays() {
            int slot = pick(0, 3);
            int index = pick(0, 12);
            switch (random.nextInt(6)) {
                case 0:
                    int type = random.nextBoolean() ? 1 : pick(0, 3);
                    int size = random.nextInt(4) == 0 ? pick(0, 40) : pick(0, 9);
                    check("allocate(" + slot + ", " + type + ", " + size + ")", program.allocate(slot, type, size),
                            model.allocate(slot, type, size));
                    break;
                case 1:
                    if (random.nextInt(4) == 0) {
                        check("release(" + slot + ")", program.release(slot), model.release(slot));
                    }
                    break;
                case 2:
                    for (int i = 0; i < 5; i++) {
                        long value = value();
                        check("putElement(" + slot + ", " + (index + i) + ", " + value + ")",
                                program.putElement(slot, index + i, value), model.putElement(slot, index + i, value));
                    }
                    break;
                case 3:
                    int target = pick(0, 3);
                    int at = pick(0, 9);
                    int count = pick(0, 9);
                    check("copyElements(" + slot + ", " + index + ", " + target + ", " + at + ", " + count + ")",
                            program.copyElements(slot, index, target, at, count),
                            model.copyElements(slot, index, target, at, count));
                    break;
                case 4:
                    int r = register();
                    check("loadPattern(" + r + ", " + slot + ")", program.loadPattern(r, slot),
                            model.loadPattern(r, slot));
                    break;
                default:
                    fillWithPattern(pick(0, 3), register());
            }
            int shown = any(0, 3);
            for (int i = -1; i <= model.sizeOf(shown); i++) {
                check("element(" + shown + ", " + i + ")", program.element(shown, i), model.element(shown, i));
            }
        }

        void fillWithPattern(int slot, int r) {
            String p = randomPattern();
            check("allocate(" + slot + ", 1, " + p.length() + ")", program.allocate(slot, 1, p.length()),
                    model.allocate(slot, 1, p.length()));
            for (int i = 0; i < p.length(); i++) {
                check("putElement(" + slot + ", " + i + ", " + (int) p.charAt(i) + ")",
                        program.putElement(slot, i, p.charAt(i)), model.putElement(slot, i, p.charAt(i)));
            }
            check("loadPattern(" + r + ", " + slot + ")", program.loadPattern(r, slot), model.loadPattern(r, slot));
        }

        void stepOfBench() {
            switch (random.nextInt(8)) {
                case 0:
                    int letters = pick(1, 3);
                    check("reset(" + letters + ")", program.reset(letters), model.reset(letters));
                    break;
                case 1:
                    check("snapshot()", program.snapshot(), model.snapshot());
                    break;
                case 2:
                    check("restore()", program.restore(), model.restore());
                    break;
                case 3:
                    check("clearInput()", program.clearInput(), model.clearInput());
                    break;
                case 4:
                    append(random.nextInt(6) == 0 ? wild() : any(0, 127), pick(1, 20));
                    break;
                case 5:
                    append("abcXYZW".charAt(random.nextInt(7)), pick(1, 4));
                    break;
                default:
                    int r = register();
                    type(randomPattern());
                    check("setPattern(" + r + ")", program.setPattern(r), model.setPattern(r));
            }
        }
    }

    /** The document over texts: patterns and words are Strings with their written characters. */
    private static final class Model {
        static final long NO_VALUE = Long.MIN_VALUE;
        static final String NAMES = "XYZW";

        int letters = 2;
        String[] registers = {"X", "X", "X", "X", "X", "X"};
        String[] images = {"a", "a", "a", "a"};
        List<String> sample = new ArrayList<>();
        String input = "";
        Object[] slots = new Object[4];
        Model saved = null;

        static int code(char c) {
            return NAMES.indexOf(c) >= 0 ? 10 + NAMES.indexOf(c) : c - 'a';
        }

        static String canonical(String p) {
            StringBuilder out = new StringBuilder();
            Map<Character, Character> names = new LinkedHashMap<>();
            for (char c : p.toCharArray()) {
                if (Character.isUpperCase(c)) {
                    if (!names.containsKey(c)) {
                        names.put(c, NAMES.charAt(names.size()));
                    }
                    out.append(names.get(c));
                } else {
                    out.append(c);
                }
            }
            return out.toString();
        }

        static Set<Character> variables(String p) {
            Set<Character> found = new TreeSet<>((a, b) -> NAMES.indexOf(a) - NAMES.indexOf(b));
            for (char c : p.toCharArray()) {
                if (NAMES.indexOf(c) >= 0) {
                    found.add(c);
                }
            }
            return found;
        }

        static int letterCount(String p) {
            int count = 0;
            for (char c : p.toCharArray()) {
                count += NAMES.indexOf(c) < 0 ? 1 : 0;
            }
            return count;
        }

        String alphabet() {
            return "abc".substring(0, letters);
        }

        boolean isWord(String text) {
            return text.length() <= 8 && text.matches("[" + alphabet() + "]*");
        }

        boolean isPattern(String text) {
            return text.length() >= 1 && text.length() <= 8 && text.matches("[" + alphabet() + "XYZW]*");
        }

        static boolean isRegister(int r) {
            return r >= 0 && r <= 5;
        }

        static boolean isMode(int m) {
            return m == 0 || m == 1;
        }

        /** All matches, as the lengths of the variables' words; found by trying all lengths. */
        static List<int[]> allMatches(String p, String text, int mode) {
            List<int[]> found = new ArrayList<>();
            int count = variables(p).size();
            int[] sizes = new int[count];
            Arrays.fill(sizes, 1 - mode);
            while (true) {
                if (fits(p, text, sizes)) {
                    found.add(sizes.clone());
                }
                int i = count - 1;
                while (i >= 0 && sizes[i] >= text.length()) {
                    sizes[i] = 1 - mode;
                    i--;
                }
                if (i < 0) {
                    return found;
                }
                sizes[i]++;
            }
        }

        static boolean fits(String p, String text, int[] sizes) {
            int total = 0;
            for (char c : p.toCharArray()) {
                total += NAMES.indexOf(c) >= 0 ? sizes[NAMES.indexOf(c)] : 1;
            }
            return total == text.length() && words(p, text, sizes) != null;
        }

        /** The words of the variables, or null if these lengths make no match. */
        static String[] words(String p, String text, int[] sizes) {
            String[] words = new String[sizes.length];
            int at = 0;
            for (char c : p.toCharArray()) {
                int v = NAMES.indexOf(c);
                int size = v < 0 ? 1 : sizes[v];
                String part = text.substring(at, at + size);
                at += size;
                if (v < 0 ? !part.equals(String.valueOf(c)) : words[v] != null && !words[v].equals(part)) {
                    return null;
                }
                if (v >= 0) {
                    words[v] = part;
                }
            }
            return words;
        }

        static boolean inLanguage(String p, String text, int mode) {
            return !allMatches(p, text, mode).isEmpty();
        }

        /** The variables of the special pattern are made letters that no alphabet has. */
        static boolean general(String p, String q, int mode) {
            return inLanguage(p, q.replace('X', 'p').replace('Y', 'q').replace('Z', 'r').replace('W', 's'), mode);
        }

        int reset(int k) {
            if (k < 1 || k > 3) {
                return -1;
            }
            int old = letters;
            letters = k;
            Arrays.fill(registers, "X");
            Arrays.fill(images, "a");
            sample.clear();
            return old;
        }

        int append(int value, int count) {
            if (value < 0 || value > 127 || count < 1 || count > 20) {
                return -1;
            }
            if (input.length() + count > 20) {
                return -4;
            }
            input += String.valueOf((char) value).repeat(count);
            return input.length();
        }

        int clearInput() {
            return take().length();
        }

        String take() {
            String text = input;
            input = "";
            return text;
        }

        int setPattern(int r) {
            String text = take();
            if (!isRegister(r)) {
                return -2;
            }
            if (!isPattern(text)) {
                return -5;
            }
            registers[r] = canonical(text);
            return text.length();
        }

        int copy(int target, int source) {
            if (!isRegister(target) || !isRegister(source)) {
                return -2;
            }
            registers[target] = registers[source];
            return registers[target].length();
        }

        int length(int r) {
            return isRegister(r) ? registers[r].length() : -2;
        }

        int symbol(int r, int position) {
            if (!isRegister(r)) {
                return -2;
            }
            return position < 0 || position >= registers[r].length() ? -6 : code(registers[r].charAt(position));
        }

        int variableCount(int r) {
            return isRegister(r) ? variables(registers[r]).size() : -2;
        }

        boolean has(int r, int v) {
            return v >= 0 && v < 4 && registers[r].indexOf(NAMES.charAt(v)) >= 0;
        }

        int occurrences(int r, int v) {
            if (!isRegister(r)) {
                return -2;
            }
            if (!has(r, v)) {
                return -3;
            }
            return registers[r].length() - registers[r].replace(NAMES.substring(v, v + 1), "").length();
        }

        static int better(String p, String q) {
            if (p.length() != q.length()) {
                return p.length() - q.length();
            }
            if (letterCount(p) != letterCount(q)) {
                return letterCount(p) - letterCount(q);
            }
            if (variables(p).size() != variables(q).size()) {
                return variables(q).size() - variables(p).size();
            }
            return codes(q).compareTo(codes(p));
        }

        /** A text that is ordered as the codes are. */
        static String codes(String p) {
            StringBuilder text = new StringBuilder();
            for (char c : p.toCharArray()) {
                text.append((char) code(c));
            }
            return text.toString();
        }

        int compareQuality(int r, int s) {
            if (!isRegister(r) || !isRegister(s)) {
                return -2;
            }
            return 1 + Integer.signum(better(registers[r], registers[s]));
        }

        int replace(int r, int v, int letter) {
            if (!isRegister(r)) {
                return -2;
            }
            if (!has(r, v)) {
                return -3;
            }
            if (letter < 0 || letter >= letters) {
                return -1;
            }
            registers[r] = canonical(registers[r].replace(NAMES.charAt(v), "abc".charAt(letter)));
            return variableCount(r);
        }

        int merge(int r, int v, int other) {
            if (!isRegister(r)) {
                return -2;
            }
            if (!has(r, v) || !has(r, other)) {
                return -3;
            }
            if (v == other) {
                return -1;
            }
            registers[r] = canonical(registers[r].replace(NAMES.charAt(v), NAMES.charAt(other)));
            return variableCount(r);
        }

        int split(int r, int v) {
            if (!isRegister(r)) {
                return -2;
            }
            if (!has(r, v)) {
                return -3;
            }
            String name = NAMES.substring(v, v + 1);
            String made = registers[r].replace(name, name + "N");
            if (variableCount(r) == 4 || made.length() > 8) {
                return -4;
            }
            registers[r] = canonical(made);
            return made.length();
        }

        int transform(int r) {
            String word = take();
            if (!isRegister(r)) {
                return -2;
            }
            String p = registers[r];
            switch (word) {
                case "reverse":
                    p = new StringBuilder(p).reverse().toString();
                    break;
                case "swap":
                    p = letters == 1 ? p : p.replace('a', '?').replace('b', 'a').replace('?', 'b');
                    break;
                case "drop":
                    p = p.length() == 1 ? p : p.substring(0, p.length() - 1);
                    break;
                case "collapse":
                    p = p.replaceAll("[XYZW]", "X");
                    break;
                case "forget":
                    p = p.replaceAll("[abc]", "X");
                    break;
                default:
                    return -5;
            }
            registers[r] = canonical(p);
            return p.length();
        }

        int refusal(int r, int mode, String text) {
            if (!isRegister(r)) {
                return -2;
            }
            if (!isMode(mode)) {
                return -1;
            }
            return isWord(text) ? 0 : -5;
        }

        int matches(int r, int mode) {
            int count = matchCount(r, mode);
            return Math.min(count, 1);
        }

        int matchCount(int r, int mode) {
            String text = take();
            int refusal = refusal(r, mode, text);
            return refusal != 0 ? refusal : allMatches(registers[r], text, mode).size();
        }

        int match(int r, int mode) {
            String text = take();
            int refusal = refusal(r, mode, text);
            if (refusal != 0) {
                return refusal;
            }
            List<int[]> all = allMatches(registers[r], text, mode);
            if (all.isEmpty()) {
                return -6;
            }
            int[] first = all.get(0);
            String[] words = words(registers[r], text, first);
            for (int v = 0; v < words.length; v++) {
                images[v] = words[v];
            }
            return first.length == 0 ? 0 : first[0];
        }

        int setImage(int v) {
            String text = take();
            if (v < 0 || v > 3) {
                return -3;
            }
            if (!isWord(text)) {
                return -5;
            }
            images[v] = text;
            return text.length();
        }

        int imageLetter(int v, int position) {
            if (v < 0 || v > 3) {
                return -3;
            }
            return position < 0 || position >= images[v].length() ? -6 : images[v].charAt(position) - 'a';
        }

        int addProduced(int r) {
            if (!isRegister(r)) {
                return -2;
            }
            StringBuilder made = new StringBuilder();
            for (char c : registers[r].toCharArray()) {
                made.append(NAMES.indexOf(c) >= 0 ? images[NAMES.indexOf(c)] : String.valueOf(c));
            }
            if (made.length() > 8 || sample.size() >= 6) {
                return -4;
            }
            sample.add(made.toString());
            return sample.size();
        }

        int addWord() {
            String text = take();
            if (!isWord(text)) {
                return -5;
            }
            if (sample.size() >= 6) {
                return -4;
            }
            sample.add(text);
            return sample.size();
        }

        int removeWord(int index) {
            if (index < 0 || index >= sample.size()) {
                return -6;
            }
            sample.remove(index);
            return sample.size();
        }

        static long wordCode(String word) {
            long code = 0;
            for (int i = 0; i < word.length(); i++) {
                code += (word.charAt(i) - 'a' + 1) * (long) Math.pow(4, i);
            }
            return code;
        }

        long sampleCode(int index) {
            return index < 0 || index >= sample.size() ? NO_VALUE : wordCode(sample.get(index));
        }

        int firstMisfit(int r, int mode) {
            if (!isRegister(r)) {
                return -2;
            }
            return isMode(mode) ? misfit(registers[r], mode) : -1;
        }

        int misfit(String p, int mode) {
            for (int i = 0; i < sample.size(); i++) {
                if (!inLanguage(p, sample.get(i), mode)) {
                    return i;
                }
            }
            return -6;
        }

        int isMoreGeneral(int p, int q, int mode) {
            if (!isRegister(p) || !isRegister(q)) {
                return -2;
            }
            if (!isMode(mode)) {
                return -1;
            }
            return general(registers[p], registers[q], mode) ? 1 : 0;
        }

        int chainBreak(int first, int last, int mode) {
            if (!isRegister(first) || !isRegister(last)) {
                return -2;
            }
            if (last < first || !isMode(mode)) {
                return -1;
            }
            for (int i = first; i + 1 <= last; i++) {
                boolean down = general(registers[i], registers[i + 1], mode);
                boolean up = general(registers[i + 1], registers[i], mode);
                if (!down || up) {
                    return i;
                }
            }
            return -6;
        }

        /** All texts of a length over some characters. */
        static List<String> texts(String characters, int length) {
            List<String> all = new ArrayList<>(List.of(""));
            for (int i = 0; i < length; i++) {
                List<String> longer = new ArrayList<>();
                for (String text : all) {
                    for (char c : characters.toCharArray()) {
                        longer.add(text + c);
                    }
                }
                all = longer;
            }
            return all;
        }

        int findPattern(int r, int length, int mode) {
            if (!isRegister(r)) {
                return -2;
            }
            if (length < 1 || length > 5 || !isMode(mode)) {
                return -1;
            }
            List<String> patterns = new ArrayList<>();
            for (String p : texts(alphabet() + "XYZW", length)) {
                if (canonical(p).equals(p)) {
                    patterns.add(p);
                }
            }
            String best = best(patterns, mode);
            if (best == null) {
                return -6;
            }
            registers[r] = best;
            return letterCount(best);
        }

        int findOneVariable(int r) {
            if (!isRegister(r)) {
                return -2;
            }
            for (int length = 7; length >= 1; length--) {
                List<String> patterns = new ArrayList<>();
                for (String p : texts(alphabet() + "X", length)) {
                    if (p.indexOf('X') >= 0) {
                        patterns.add(p);
                    }
                }
                String best = best(patterns, 0);
                if (best != null) {
                    registers[r] = best;
                    return length;
                }
            }
            return -6;
        }

        /** Sorted first, so that only the patterns before the answer are matched. */
        String best(List<String> patterns, int mode) {
            patterns.sort((p, q) -> better(q, p));
            for (String p : patterns) {
                if (misfit(p, mode) == -6) {
                    return p;
                }
            }
            return null;
        }

        int countWords(int r, int mode, int length) {
            if (!isRegister(r)) {
                return -2;
            }
            if (!isMode(mode) || length < 0 || length > 6) {
                return -1;
            }
            return language(registers[r], mode, length).size();
        }

        /** The words that the substitutions make, in the order of words. */
        Set<String> language(String p, int mode, int length) {
            Set<String> made = new TreeSet<>();
            extend(p, new LinkedHashMap<>(), mode, length, made);
            return made;
        }

        void extend(String p, Map<Character, String> chosen, int mode, int length, Set<String> made) {
            for (char c : p.toCharArray()) {
                if (NAMES.indexOf(c) >= 0 && !chosen.containsKey(c)) {
                    for (int size = 1 - mode; size <= length; size++) {
                        for (String word : texts(alphabet(), size)) {
                            chosen.put(c, word);
                            if (shortest(p, chosen, mode) <= length) {
                                extend(p, chosen, mode, length, made);
                            }
                            chosen.remove(c);
                        }
                    }
                    return;
                }
            }
            StringBuilder text = new StringBuilder();
            for (char c : p.toCharArray()) {
                text.append(chosen.getOrDefault(c, String.valueOf(c)));
            }
            if (text.length() == length) {
                made.add(text.toString());
            }
        }

        static int shortest(String p, Map<Character, String> chosen, int mode) {
            int size = 0;
            for (char c : p.toCharArray()) {
                boolean open = NAMES.indexOf(c) >= 0 && !chosen.containsKey(c);
                size += open ? 1 - mode : chosen.getOrDefault(c, "?").length();
            }
            return size;
        }

        long difference(int first, int second, int mode, int limit) {
            if (!isRegister(first) || !isRegister(second) || !isMode(mode) || limit < 0 || limit > 6) {
                return NO_VALUE;
            }
            for (int length = 0; length <= limit; length++) {
                Set<String> rest = new LinkedHashSet<>(language(registers[first], mode, length));
                rest.removeAll(language(registers[second], mode, length));
                if (!rest.isEmpty()) {
                    return wordCode(rest.iterator().next());
                }
            }
            return NO_VALUE;
        }

        static boolean isSlot(int slot) {
            return slot >= 0 && slot < 4;
        }

        int sizeOf(int slot) {
            return slots[slot] == null ? 0 : java.lang.reflect.Array.getLength(slots[slot]);
        }

        int allocate(int slot, int type, int size) {
            if (!isSlot(slot) || type < 0 || type > 3 || size > 40) {
                return -1;
            }
            if (size < 0) {
                return -14;
            }
            Object[] made = {new byte[size], new char[size], new int[size], new boolean[size]};
            slots[slot] = made[type];
            return size;
        }

        int release(int slot) {
            if (!isSlot(slot)) {
                return -1;
            }
            int held = slots[slot] == null ? 0 : 1;
            slots[slot] = null;
            return held;
        }

        int putElement(int slot, int index, long value) {
            if (!isSlot(slot)) {
                return -1;
            }
            if (slots[slot] == null) {
                return -11;
            }
            if (index < 0 || index >= sizeOf(slot)) {
                return -13;
            }
            if (slots[slot] instanceof byte[] bytes) {
                bytes[index] = (byte) value;
            } else if (slots[slot] instanceof char[] chars) {
                chars[index] = (char) value;
            } else if (slots[slot] instanceof int[] ints) {
                ints[index] = (int) value;
            } else {
                ((boolean[]) slots[slot])[index] = value != 0;
            }
            return 1;
        }

        long element(int slot, int index) {
            if (!isSlot(slot) || slots[slot] == null || index < 0 || index >= sizeOf(slot)) {
                return NO_VALUE;
            }
            if (slots[slot] instanceof boolean[] booleans) {
                return booleans[index] ? 1 : 0;
            }
            return java.lang.reflect.Array.getLong(slots[slot], index);
        }

        int copyElements(int source, int sourceIndex, int target, int targetIndex, int count) {
            if (!isSlot(source) || !isSlot(target)) {
                return -1;
            }
            if (slots[source] == null || slots[target] == null) {
                return -11;
            }
            if (slots[source].getClass() != slots[target].getClass()) {
                return -12;
            }
            try {
                System.arraycopy(slots[source], sourceIndex, slots[target], targetIndex, count);
            } catch (IndexOutOfBoundsException e) {
                return -13;
            }
            return count;
        }

        int loadPattern(int r, int slot) {
            if (!isRegister(r)) {
                return -2;
            }
            if (!isSlot(slot)) {
                return -1;
            }
            if (slots[slot] == null) {
                return -11;
            }
            if (!(slots[slot] instanceof char[] chars)) {
                return -12;
            }
            String text = new String(chars);
            if (!isPattern(text)) {
                return -5;
            }
            registers[r] = canonical(text);
            return text.length();
        }

        int snapshot() {
            saved = new Model();
            saved.take(this);
            return sample.size();
        }

        int restore() {
            if (saved == null) {
                return -6;
            }
            take(saved);
            return sample.size();
        }

        void take(Model other) {
            letters = other.letters;
            registers = other.registers.clone();
            images = other.images.clone();
            sample = new ArrayList<>(other.sample);
        }
    }
}
