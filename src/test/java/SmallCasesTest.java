import java.util.ArrayList;
import java.util.BitSet;
import java.util.Comparator;
import java.util.List;
import java.util.regex.Matcher;
import java.util.regex.Pattern;

/**
 * All small cases, none left out: every pattern against every word up to some length, every pair of
 * words as a sample, every pair of patterns. The answers that are due come from Java's regular
 * expressions: a variable is a reluctant group and then a reference back to it, so that the first
 * match of the expression has the shortest words for X, then Y, Z and W.
 */
public final class SmallCasesTest {
    private static final String NAMES = "XYZW";
    private static final int CALLS_OF_AN_OBJECT = 512;
    private static final int SHOWN = 20;
    private static int wrong = 0;

    public static void main(String[] args) {
        matching(1, 5, 8);
        matching(2, 5, 6);
        matching(3, 4, 5);
        matching(3, 2, 6);
        longPatterns();
        learning(1, upTo(1, 8));
        learning(2, withLongWords(upTo(2, 4)));
        learning(3, upTo(3, 2));
        pairs(2, 3, 6);
        pairs(3, 2, 5);
        System.out.println(wrong == 0 ? "all small cases hold" : wrong + " small cases are wrong");
        if (wrong != 0) {
            System.exit(1);
        }
    }

    private static void due(String call, long got, long want) {
        if (got == want) {
            return;
        }
        wrong++;
        if (wrong <= SHOWN) {
            System.out.println(call + " answered " + got + ", due is " + want);
        }
    }

    private static void due(String call, String got, String want) {
        if (!got.equals(want)) {
            due(call + ": " + got + " for " + want, 0, 1);
        }
    }

    // Patterns and words

    private static void addPatterns(String begun, int used, int letters, int length, List<String> all) {
        if (begun.length() == length) {
            all.add(begun);
            return;
        }
        for (int i = 0; i < letters; i++) {
            addPatterns(begun + (char) ('a' + i), used, letters, length, all);
        }
        for (int v = 0; v <= used && v < NAMES.length(); v++) {
            addPatterns(begun + NAMES.charAt(v), Math.max(used, v + 1), letters, length, all);
        }
    }

    private static List<String> patterns(int letters, int length) {
        List<String> all = new ArrayList<>();
        addPatterns("", 0, letters, length, all);
        return all;
    }

    private static List<String> words(int letters, int length) {
        List<String> all = new ArrayList<>(List.of(""));
        for (int i = 0; i < length; i++) {
            List<String> longer = new ArrayList<>();
            for (String word : all) {
                for (int letter = 0; letter < letters; letter++) {
                    longer.add(word + (char) ('a' + letter));
                }
            }
            all = longer;
        }
        return all;
    }

    /** In the order of words. */
    private static List<String> upTo(int letters, int longest) {
        List<String> all = new ArrayList<>();
        for (int length = 0; length <= longest; length++) {
            all.addAll(words(letters, length));
        }
        return all;
    }

    private static List<String> withLongWords(List<String> all) {
        all.addAll(List.of("abababab", "aabbaabb", "babbabba", "aaaaaaab", "abbab", "aabaab", "bbbabbb"));
        return all;
    }

    private static Pattern regex(String pattern, int mode) {
        StringBuilder text = new StringBuilder();
        int seen = 0;
        for (char c : pattern.toCharArray()) {
            int variable = NAMES.indexOf(c);
            if (variable < 0) {
                text.append(c);
            } else if (variable == seen) {
                text.append(mode == 0 ? "(.+?)" : "(.*?)");
                seen++;
            } else {
                text.append("\\").append(variable + 1).append("(?:)");
            }
        }
        return Pattern.compile(text.toString());
    }

    private static int lettersIn(String pattern) {
        return (int) pattern.chars().filter(c -> NAMES.indexOf(c) < 0).count();
    }

    private static int variablesIn(String pattern) {
        return (int) pattern.chars().filter(c -> NAMES.indexOf(c) >= 0).distinct().count();
    }

    private static int codeOf(char c) {
        return NAMES.indexOf(c) < 0 ? c - 'a' : 10 + NAMES.indexOf(c);
    }

    /** The better pattern has the smaller key. */
    private static String key(String pattern) {
        StringBuilder text = new StringBuilder();
        text.append((char) (20 - pattern.length())).append((char) (20 - lettersIn(pattern)));
        text.append((char) variablesIn(pattern));
        for (char c : pattern.toCharArray()) {
            text.append((char) codeOf(c));
        }
        return text.toString();
    }

    private static long wordCode(String word) {
        long code = 0;
        for (int i = word.length() - 1; i >= 0; i--) {
            code = code * 4 + word.charAt(i) - 'a' + 1;
        }
        return code;
    }

    // What the program holds

    private static PatternLanguages bench(int letters) {
        PatternLanguages x = new PatternLanguages();
        x.reset(letters);
        return x;
    }

    private static void type(PatternLanguages x, String text) {
        for (char c : text.toCharArray()) {
            x.append(c, 1);
        }
    }

    private static void setPattern(PatternLanguages x, int register, String pattern) {
        type(x, pattern);
        due("setPattern of " + pattern, x.setPattern(register), pattern.length());
    }

    private static String pattern(PatternLanguages x, int register) {
        StringBuilder text = new StringBuilder();
        for (int i = 0; i < x.length(register); i++) {
            int code = x.symbol(register, i);
            text.append(code < 10 ? (char) ('a' + code) : NAMES.charAt(code - 10));
        }
        return text.toString();
    }

    private static String image(PatternLanguages x, int variable) {
        StringBuilder text = new StringBuilder();
        for (int i = 0; x.imageLetter(variable, i) >= 0; i++) {
            text.append((char) ('a' + x.imageLetter(variable, i)));
        }
        return text.toString();
    }

    // Matching and counting

    private static void matching(int letters, int longestPattern, int longestWord) {
        List<String> words = upTo(letters, longestWord);
        for (int length = 1; length <= longestPattern; length++) {
            for (String pattern : patterns(letters, length)) {
                matching(letters, pattern, words, 0);
                matching(letters, pattern, words, 1);
            }
        }
    }

    private static void matching(int letters, String pattern, List<String> words, int mode) {
        Pattern regex = regex(pattern, mode);
        int[] found = new int[9];
        PatternLanguages x = null;
        int calls = CALLS_OF_AN_OBJECT;
        for (String word : words) {
            if (calls + 60 > CALLS_OF_AN_OBJECT) {
                x = bench(letters);
                setPattern(x, 3, pattern);
                calls = 10;
            }
            Matcher match = regex.matcher(word);
            boolean isMatch = match.matches();
            found[word.length()] += isMatch ? 1 : 0;
            oneMatch(x, pattern, word, mode, isMatch ? match : null);
            calls += 60;
        }
        int longest = words.get(words.size() - 1).length();
        for (int length = 0; length <= Math.min(longest, 6); length++) {
            String call = "countWords of " + pattern + ", mode " + mode + ", length " + length;
            due(call, bench(letters, pattern).countWords(3, mode, length), found[length]);
        }
    }

    private static PatternLanguages bench(int letters, String pattern) {
        PatternLanguages x = bench(letters);
        setPattern(x, 3, pattern);
        return x;
    }

    private static void oneMatch(PatternLanguages x, String pattern, String word, int mode, Matcher match) {
        String what = " of " + pattern + ", word " + word + ", mode " + mode;
        type(x, word);
        due("matches" + what, x.matches(3, mode), match == null ? 0 : 1);
        type(x, word);
        int size = match == null ? -6 : match.groupCount() == 0 ? 0 : match.group(1).length();
        due("match" + what, x.match(3, mode), size);
        for (int i = 1; match != null && i <= match.groupCount(); i++) {
            due("image " + i + what, image(x, i - 1), match.group(i));
        }
        type(x, word);
        due("matchCount" + what, x.matchCount(3, mode), countByLengths(pattern, word, mode));
    }

    /** Fixes the lengths of the variables' words, one choice after the other. */
    private static int countByLengths(String pattern, String word, int mode) {
        int variables = variablesIn(pattern);
        int[] sizes = new int[variables];
        int choices = (int) Math.pow(word.length() + 1, variables);
        int found = 0;
        for (int choice = 0; choice < choices; choice++) {
            int rest = choice;
            int total = lettersIn(pattern);
            boolean isAllowed = true;
            for (int v = 0; v < variables; v++) {
                sizes[v] = rest % (word.length() + 1);
                rest /= word.length() + 1;
                isAllowed = isAllowed && sizes[v] >= 1 - mode;
                char name = NAMES.charAt(v);
                total += sizes[v] * (int) pattern.chars().filter(c -> c == name).count();
            }
            if (isAllowed && total == word.length() && isProduced(pattern, word, sizes)) {
                found++;
            }
        }
        return found;
    }

    private static boolean isProduced(String pattern, String word, int[] sizes) {
        String[] images = new String[sizes.length];
        int at = 0;
        for (char c : pattern.toCharArray()) {
            int v = NAMES.indexOf(c);
            String part = word.substring(at, at + (v < 0 ? 1 : sizes[v]));
            if (v >= 0 && images[v] == null) {
                images[v] = part;
            }
            if (!part.equals(v < 0 ? String.valueOf(c) : images[v])) {
                return false;
            }
            at += part.length();
        }
        return at == word.length();
    }

    /** Patterns of the greatest length, with all four variables, on words of the greatest length. */
    private static void longPatterns() {
        List<String> words = List.of("", "aaaaaaaa", "abababab", "aabbaabb", "abbaabba", "babbabba", "aaaaaaab");
        for (String pattern : List.of("XYZWXYZW", "XYZWWZYX", "XXYYZZWW", "XYXZXWXX", "aXbYaZbW", "XYaZWbXX",
                "XaYbZaWb", "XYZWaaaa", "aaaaaaaX", "Xbbbbbbb", "XYZWZYXa", "abababab", "XXXXXXXX")) {
            for (String word : words) {
                for (int mode = 0; mode <= 1; mode++) {
                    Matcher match = regex(pattern, mode).matcher(word);
                    oneMatch(bench(2, pattern), pattern, word, mode, match.matches() ? match : null);
                }
            }
        }
    }

    // Learning

    private static void learning(int letters, List<String> words) {
        for (int length = 1; length <= 5; length++) {
            List<String> patterns = patterns(letters, length);
            patterns.sort(Comparator.comparing(SmallCasesTest::key));
            learning(letters, words, patterns, length, 0);
            learning(letters, words, patterns, length, 1);
        }
        List<String> patterns = new ArrayList<>();
        for (int length = 1; length <= 7; length++) {
            for (String word : words(letters + 1, length)) {
                String pattern = word.replace((char) ('a' + letters), 'X');
                if (pattern.indexOf('X') >= 0) {
                    patterns.add(pattern);
                }
            }
        }
        patterns.sort(Comparator.comparing(SmallCasesTest::key));
        learning(letters, words, patterns, 0, 0);
    }

    /** The patterns come best first; length 0 stands for findOneVariable. */
    private static void learning(int letters, List<String> words, List<String> patterns, int length, int mode) {
        List<BitSet> fits = languages(patterns, words, mode);
        for (int i = 0; i < words.size(); i++) {
            for (int j = 0; j < words.size(); j++) {
                BitSet both = (BitSet) fits.get(i).clone();
                both.and(fits.get(j));
                int first = both.nextSetBit(0);
                String best = first < 0 ? null : patterns.get(first);
                oneSample(letters, words.get(i), words.get(j), length, mode, best);
            }
        }
    }

    /** For each word, the places of the patterns that match it. */
    private static List<BitSet> languages(List<String> patterns, List<String> words, int mode) {
        List<Pattern> regexes = new ArrayList<>();
        for (String pattern : patterns) {
            regexes.add(regex(pattern, mode));
        }
        List<BitSet> fits = new ArrayList<>();
        for (String word : words) {
            BitSet fitting = new BitSet();
            for (int i = 0; i < patterns.size(); i++) {
                fitting.set(i, regexes.get(i).matcher(word).matches());
            }
            fits.add(fitting);
        }
        return fits;
    }

    private static void oneSample(int letters, String one, String other, int length, int mode, String best) {
        PatternLanguages x = bench(letters);
        setPattern(x, 2, "aXYX");
        type(x, one);
        x.addWord();
        type(x, other);
        x.addWord();
        String call = length == 0 ? "findOneVariable" : "findPattern of length " + length + ", mode " + mode;
        call += " for " + one + " and " + other;
        int none = -6;
        if (length == 0) {
            due(call, x.findOneVariable(2), best == null ? none : best.length());
        } else {
            due(call, x.findPattern(2, length, mode), best == null ? none : lettersIn(best));
        }
        due(call, pattern(x, 2), best == null ? "aXYX" : best);
        due("firstMisfit after " + call, x.firstMisfit(2, mode), best == null ? misfit(one, other, mode) : none);
    }

    private static int misfit(String one, String other, int mode) {
        Pattern regex = regex("aXYX", mode);
        return !regex.matcher(one).matches() ? 0 : !regex.matcher(other).matches() ? 1 : -6;
    }

    // Pairs of patterns

    private static void pairs(int letters, int longest, int limit) {
        List<String> patterns = new ArrayList<>();
        for (int length = 1; length <= longest; length++) {
            patterns.addAll(patterns(letters, length));
        }
        List<String> words = upTo(letters, limit);
        for (int mode = 0; mode <= 1; mode++) {
            List<Pattern> regexes = new ArrayList<>();
            List<BitSet> languages = new ArrayList<>();
            for (String pattern : patterns) {
                Pattern regex = regex(pattern, mode);
                BitSet language = new BitSet();
                for (int i = 0; i < words.size(); i++) {
                    language.set(i, regex.matcher(words.get(i)).matches());
                }
                regexes.add(regex);
                languages.add(language);
            }
            for (int i = 0; i < patterns.size(); i++) {
                for (int j = 0; j < patterns.size(); j++) {
                    boolean isAbove = regexes.get(i).matcher(patterns.get(j)).matches();
                    boolean isBelow = regexes.get(j).matcher(patterns.get(i)).matches();
                    BitSet rest = (BitSet) languages.get(i).clone();
                    rest.andNot(languages.get(j));
                    int first = rest.nextSetBit(0);
                    PatternLanguages x = bench(letters);
                    setPattern(x, 4, patterns.get(i));
                    setPattern(x, 5, patterns.get(j));
                    String what = " of " + patterns.get(i) + " and " + patterns.get(j) + ", mode " + mode;
                    due("isMoreGeneral" + what, x.isMoreGeneral(4, 5, mode), isAbove ? 1 : 0);
                    due("chainBreak" + what, x.chainBreak(4, 5, mode), isAbove && !isBelow ? -6 : 4);
                    int order = key(patterns.get(i)).compareTo(key(patterns.get(j)));
                    due("compareQuality" + what, x.compareQuality(4, 5), 1 - Integer.signum(order));
                    long code = first < 0 ? Long.MIN_VALUE : wordCode(words.get(first));
                    due("difference" + what, x.difference(4, 5, mode, limit), code);
                }
            }
        }
    }
}
