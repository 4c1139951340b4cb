/**
 * A workbench for pattern languages: patterns of letters and variables, matching with and without
 * erasing, refinement of patterns, patterns learned from samples, counting and comparing languages
 * by their words.
 *
 * <p>All rows are made once, with the object: the calls themselves make no objects.
 */
public final class PatternLanguages {
    public static final int BAD_ARGUMENT = -1;
    public static final int NO_SUCH_REGISTER = -2;
    public static final int NO_SUCH_VARIABLE = -3;
    public static final int FULL = -4;
    public static final int BAD_INPUT = -5;
    public static final int NONE = -6;
    public static final int EMPTY_SLOT = -11;
    public static final int WRONG_TYPE = -12;
    public static final int INDEX_OUT_OF_RANGE = -13;
    public static final int NEGATIVE_SIZE = -14;
    public static final long NO_VALUE = Long.MIN_VALUE;

    private static final int MOST_LETTERS = 3;
    private static final int INITIAL_LETTERS = 2;
    private static final int REGISTERS = 6;
    private static final int VARIABLES = 4;
    private static final int SYMBOL_LIMIT = 8;
    private static final int SAMPLE_LIMIT = 6;
    private static final int INPUT_LIMIT = 20;
    private static final int HIGHEST_BYTE = 127;
    private static final int SLOTS = 4;
    private static final int ARRAY_LIMIT = 40;
    private static final int LONGEST_FOUND = 5;
    private static final int LONGEST_ONE_VARIABLE = 7;
    private static final int LONGEST_COUNTED = 6;
    private static final int ERASING = 1;

    /** The code of X; letters have the codes below it, the other variables those above. */
    private static final int FIRST_VARIABLE = 10;
    private static final int NO_SYMBOL = -1;
    private static final int UNBOUND = -1;
    private static final int ACCEPTED = 0;

    private static final int EMPTY = -1;
    private static final int BYTES = 0;
    private static final int CHARS = 1;
    private static final int INTS = 2;
    private static final int BOOLEANS = 3;

    private final Bench bench = new Bench();
    private final Bench saved = new Bench();
    private boolean hasSnapshot = false;
    private final Row input = new Row(INPUT_LIMIT);
    private final Slot[] slots = new Slot[SLOTS];
    private final Matcher matcher = new Matcher();
    private final Search search = new Search();
    /** What was read from the input buffer or an array, or is being built for a register. */
    private final Row draft = new Row(SYMBOL_LIMIT);
    /** Runs through the words of a language. */
    private final Row probe = new Row(SYMBOL_LIMIT);

    public PatternLanguages() {
        for (int i = 0; i < slots.length; i++) {
            slots[i] = new Slot();
        }
    }

    public int reset(int letters) {
        if (letters < 1 || letters > MOST_LETTERS) {
            return BAD_ARGUMENT;
        }
        int previous = bench.letters;
        bench.begin(letters);
        return previous;
    }

    public int letters() {
        return bench.letters;
    }

    // The input buffer

    public int append(int value, int count) {
        if (value < 0 || value > HIGHEST_BYTE || count < 1 || count > INPUT_LIMIT) {
            return BAD_ARGUMENT;
        }
        if (input.size + count > INPUT_LIMIT) {
            return FULL;
        }
        for (int i = 0; i < count; i++) {
            input.add(value);
        }
        return input.size;
    }

    public int clearInput() {
        int held = input.size;
        input.clear();
        return held;
    }

    /** Reads the input buffer into the draft and empties it; tells whether it held a pattern. */
    private boolean takePattern() {
        boolean isPattern = readPattern(input);
        input.clear();
        return isPattern;
    }

    /** Reads the input buffer into the draft and empties it; tells whether it held a word. */
    private boolean takeWord() {
        boolean isWord = readSymbols(input) && draft.letterCount() == draft.size;
        input.clear();
        return isWord;
    }

    private boolean readPattern(Row characters) {
        if (!readSymbols(characters) || draft.size < 1) {
            return false;
        }
        draft.makeCanonical();
        return true;
    }

    private boolean readSymbols(Row characters) {
        draft.clear();
        if (characters.size > SYMBOL_LIMIT) {
            return false;
        }
        for (int i = 0; i < characters.size; i++) {
            int code = codeOf(characters.at(i));
            if (code == NO_SYMBOL) {
                return false;
            }
            draft.add(code);
        }
        return true;
    }

    private int codeOf(int character) {
        switch (character) {
            case 'X':
                return FIRST_VARIABLE;
            case 'Y':
                return FIRST_VARIABLE + 1;
            case 'Z':
                return FIRST_VARIABLE + 2;
            case 'W':
                return FIRST_VARIABLE + 3;
            default:
                boolean isLetter = character >= 'a' && character < 'a' + bench.letters;
                return isLetter ? character - 'a' : NO_SYMBOL;
        }
    }

    private boolean inputIs(String word) {
        if (input.size != word.length()) {
            return false;
        }
        for (int i = 0; i < word.length(); i++) {
            if (input.at(i) != word.charAt(i)) {
                return false;
            }
        }
        return true;
    }

    // Patterns in registers

    public int setPattern(int register) {
        boolean isPattern = takePattern();
        if (!isRegister(register)) {
            return NO_SUCH_REGISTER;
        }
        if (!isPattern) {
            return BAD_INPUT;
        }
        return store(register, draft);
    }

    public int copy(int target, int source) {
        if (!isRegister(target) || !isRegister(source)) {
            return NO_SUCH_REGISTER;
        }
        return store(target, bench.registers[source]);
    }

    public int length(int register) {
        return isRegister(register) ? bench.registers[register].size : NO_SUCH_REGISTER;
    }

    public int symbol(int register, int position) {
        if (!isRegister(register)) {
            return NO_SUCH_REGISTER;
        }
        int code = bench.registers[register].at(position);
        return code == NO_SYMBOL ? NONE : code;
    }

    public int variableCount(int register) {
        return isRegister(register) ? bench.registers[register].variablesIn() : NO_SUCH_REGISTER;
    }

    public int occurrences(int register, int variable) {
        if (!isRegister(register)) {
            return NO_SUCH_REGISTER;
        }
        if (!hasVariable(register, variable)) {
            return NO_SUCH_VARIABLE;
        }
        return bench.registers[register].countOf(FIRST_VARIABLE + variable);
    }

    public int compareQuality(int first, int second) {
        if (!isRegister(first) || !isRegister(second)) {
            return NO_SUCH_REGISTER;
        }
        return 1 + advantage(bench.registers[first], bench.registers[second]);
    }

    /** 1 if the first pattern is better than the second one, 0 if they are equal, else -1. */
    private static int advantage(Row first, Row second) {
        if (first.size != second.size) {
            return first.size > second.size ? 1 : -1;
        }
        int letters = Integer.compare(first.letterCount(), second.letterCount());
        if (letters != 0) {
            return letters;
        }
        int variables = Integer.compare(second.variablesIn(), first.variablesIn());
        if (variables != 0) {
            return variables;
        }
        for (int i = 0; i < first.size; i++) {
            if (first.at(i) != second.at(i)) {
                return first.at(i) < second.at(i) ? 1 : -1;
            }
        }
        return 0;
    }

    private int store(int register, Row pattern) {
        bench.registers[register].setTo(pattern);
        return pattern.size;
    }

    private static boolean isRegister(int register) {
        return register >= 0 && register < REGISTERS;
    }

    private static boolean isVariable(int variable) {
        return variable >= 0 && variable < VARIABLES;
    }

    private static boolean isMode(int mode) {
        return mode == 0 || mode == ERASING;
    }

    private boolean hasVariable(int register, int variable) {
        return isVariable(variable)
                && bench.registers[register].countOf(FIRST_VARIABLE + variable) > 0;
    }

    // Refinement

    public int replace(int register, int variable, int letter) {
        if (!isRegister(register)) {
            return NO_SUCH_REGISTER;
        }
        if (!hasVariable(register, variable)) {
            return NO_SUCH_VARIABLE;
        }
        if (letter < 0 || letter >= bench.letters) {
            return BAD_ARGUMENT;
        }
        return putForVariable(register, variable, letter);
    }

    public int merge(int register, int variable, int other) {
        if (!isRegister(register)) {
            return NO_SUCH_REGISTER;
        }
        if (!hasVariable(register, variable) || !hasVariable(register, other)) {
            return NO_SUCH_VARIABLE;
        }
        if (variable == other) {
            return BAD_ARGUMENT;
        }
        return putForVariable(register, variable, FIRST_VARIABLE + other);
    }

    private int putForVariable(int register, int variable, int code) {
        Row pattern = bench.registers[register];
        pattern.putForCodes(FIRST_VARIABLE + variable, FIRST_VARIABLE + variable, code);
        pattern.makeCanonical();
        return pattern.variablesIn();
    }

    public int split(int register, int variable) {
        if (!isRegister(register)) {
            return NO_SUCH_REGISTER;
        }
        if (!hasVariable(register, variable)) {
            return NO_SUCH_VARIABLE;
        }
        Row pattern = bench.registers[register];
        int code = FIRST_VARIABLE + variable;
        int variables = pattern.variablesIn();
        if (variables >= VARIABLES || pattern.size + pattern.countOf(code) > SYMBOL_LIMIT) {
            return FULL;
        }
        draft.clear();
        for (int i = 0; i < pattern.size; i++) {
            draft.add(pattern.at(i));
            if (pattern.at(i) == code) {
                draft.add(FIRST_VARIABLE + variables);
            }
        }
        draft.makeCanonical();
        return store(register, draft);
    }

    public int transform(int register) {
        int answer = isRegister(register) ? changeAsTold(register) : NO_SUCH_REGISTER;
        input.clear();
        return answer;
    }

    private int changeAsTold(int register) {
        Row pattern = bench.registers[register];
        if (inputIs("reverse")) {
            pattern.turnAround();
        } else if (inputIs("swap")) {
            swapLetters(pattern);
        } else if (inputIs("drop")) {
            dropLast(pattern);
        } else if (inputIs("collapse")) {
            pattern.putForCodes(FIRST_VARIABLE, FIRST_VARIABLE + VARIABLES - 1, FIRST_VARIABLE);
        } else if (inputIs("forget")) {
            pattern.putForCodes(0, FIRST_VARIABLE - 1, FIRST_VARIABLE);
        } else {
            return BAD_INPUT;
        }
        pattern.makeCanonical();
        return pattern.size;
    }

    private void swapLetters(Row pattern) {
        if (bench.letters > 1) {
            pattern.exchange(0, 1);
        }
    }

    private static void dropLast(Row pattern) {
        if (pattern.size > 1) {
            pattern.removeLast();
        }
    }

    // Matching

    public int matches(int register, int mode) {
        int refusal = refusalOfMatching(register, mode, takeWord());
        if (refusal != ACCEPTED) {
            return refusal;
        }
        return matcher.isMatch(bench.registers[register], draft, mode) ? 1 : 0;
    }

    public int matchCount(int register, int mode) {
        int refusal = refusalOfMatching(register, mode, takeWord());
        if (refusal != ACCEPTED) {
            return refusal;
        }
        return matcher.countAll(bench.registers[register], draft, mode);
    }

    public int match(int register, int mode) {
        int refusal = refusalOfMatching(register, mode, takeWord());
        if (refusal != ACCEPTED) {
            return refusal;
        }
        Row pattern = bench.registers[register];
        if (!matcher.isMatch(pattern, draft, mode)) {
            return NONE;
        }
        int variables = Math.min(pattern.variablesIn(), VARIABLES);
        for (int variable = 0; variable < variables; variable++) {
            matcher.writeImage(variable, draft, bench.images[variable]);
        }
        return variables > 0 ? bench.images[0].size : 0;
    }

    private static int refusalOfMatching(int register, int mode, boolean isWord) {
        if (!isRegister(register)) {
            return NO_SUCH_REGISTER;
        }
        if (!isMode(mode)) {
            return BAD_ARGUMENT;
        }
        return isWord ? ACCEPTED : BAD_INPUT;
    }

    // Images

    public int setImage(int variable) {
        boolean isWord = takeWord();
        if (!isVariable(variable)) {
            return NO_SUCH_VARIABLE;
        }
        if (!isWord) {
            return BAD_INPUT;
        }
        bench.images[variable].setTo(draft);
        return draft.size;
    }

    public int imageLetter(int variable, int position) {
        if (!isVariable(variable)) {
            return NO_SUCH_VARIABLE;
        }
        int letter = bench.images[variable].at(position);
        return letter == NO_SYMBOL ? NONE : letter;
    }

    // The sample

    public int addProduced(int register) {
        if (!isRegister(register)) {
            return NO_SUCH_REGISTER;
        }
        return produce(bench.registers[register]) ? addToSample() : FULL;
    }

    /** Writes the pattern's word into the draft; tells whether it has room there. */
    private boolean produce(Row pattern) {
        draft.clear();
        boolean hasRoom = true;
        for (int i = 0; i < pattern.size && hasRoom; i++) {
            int code = pattern.at(i);
            int variable = code - FIRST_VARIABLE;
            hasRoom = isVariable(variable) ? draft.addAll(bench.images[variable]) : draft.add(code);
        }
        return hasRoom;
    }

    public int addWord() {
        return takeWord() ? addToSample() : BAD_INPUT;
    }

    private int addToSample() {
        if (bench.sampleSize < 0 || bench.sampleSize >= SAMPLE_LIMIT) {
            return FULL;
        }
        bench.sample[bench.sampleSize].setTo(draft);
        bench.sampleSize++;
        return bench.sampleSize;
    }

    public int removeWord(int index) {
        if (!isSampleIndex(index)) {
            return NONE;
        }
        for (int i = index; i + 1 < bench.sampleSize && i + 1 < SAMPLE_LIMIT; i++) {
            bench.sample[i].setTo(bench.sample[i + 1]);
        }
        bench.sampleSize--;
        return bench.sampleSize;
    }

    public int sampleSize() {
        return bench.sampleSize;
    }

    public long sampleCode(int index) {
        return isSampleIndex(index) ? bench.sample[index].wordCode() : NO_VALUE;
    }

    public int firstMisfit(int register, int mode) {
        if (!isRegister(register)) {
            return NO_SUCH_REGISTER;
        }
        if (!isMode(mode)) {
            return BAD_ARGUMENT;
        }
        for (int i = 0; i < bench.sampleSize && i < SAMPLE_LIMIT; i++) {
            if (!matcher.isMatch(bench.registers[register], bench.sample[i], mode)) {
                return i;
            }
        }
        return NONE;
    }

    private boolean isSampleIndex(int index) {
        return index >= 0 && index < bench.sampleSize && index < SAMPLE_LIMIT;
    }

    // Generality

    public int isMoreGeneral(int general, int special, int mode) {
        if (!isRegister(general) || !isRegister(special)) {
            return NO_SUCH_REGISTER;
        }
        if (!isMode(mode)) {
            return BAD_ARGUMENT;
        }
        return isAsGeneral(general, special, mode) ? 1 : 0;
    }

    public int chainBreak(int first, int last, int mode) {
        if (!isRegister(first) || !isRegister(last)) {
            return NO_SUCH_REGISTER;
        }
        if (last < first || !isMode(mode)) {
            return BAD_ARGUMENT;
        }
        for (int i = first; i < last; i++) {
            if (!isAsGeneral(i, i + 1, mode) || isAsGeneral(i + 1, i, mode)) {
                return i;
            }
        }
        return NONE;
    }

    /** A pattern is a text to the matcher as a word is, since its variables count as letters. */
    private boolean isAsGeneral(int general, int special, int mode) {
        return matcher.isMatch(bench.registers[general], bench.registers[special], mode);
    }

    // Learning

    public int findPattern(int register, int length, int mode) {
        if (!isRegister(register)) {
            return NO_SUCH_REGISTER;
        }
        if (length < 1 || length > LONGEST_FOUND || !isMode(mode)) {
            return BAD_ARGUMENT;
        }
        if (!search.findBest(bench, length, mode)) {
            return NONE;
        }
        store(register, search.candidate);
        return search.candidate.letterCount();
    }

    public int findOneVariable(int register) {
        if (!isRegister(register)) {
            return NO_SUCH_REGISTER;
        }
        return search.findLongestOfX(bench) ? store(register, search.candidate) : NONE;
    }

    // Languages

    public int countWords(int register, int mode, int length) {
        if (!isRegister(register)) {
            return NO_SUCH_REGISTER;
        }
        if (!isMode(mode) || length < 0 || length > LONGEST_COUNTED) {
            return BAD_ARGUMENT;
        }
        int found = 0;
        int words = wordsOfLength(length);
        probe.fillWith(0, length);
        for (int i = 0; i < words; i++) {
            if (matcher.isMatch(bench.registers[register], probe, mode)) {
                found++;
            }
            probe.advance(bench.letters);
        }
        return found;
    }

    public long difference(int first, int second, int mode, int limit) {
        if (!isRegister(first) || !isRegister(second)) {
            return NO_VALUE;
        }
        if (!isMode(mode) || limit < 0 || limit > LONGEST_COUNTED) {
            return NO_VALUE;
        }
        for (int length = 0; length <= limit; length++) {
            if (findDifference(bench.registers[first], bench.registers[second], mode, length)) {
                return probe.wordCode();
            }
        }
        return NO_VALUE;
    }

    /** Leaves the first word of the length that tells the languages apart in the probe. */
    private boolean findDifference(Row first, Row second, int mode, int length) {
        int words = wordsOfLength(length);
        probe.fillWith(0, length);
        for (int i = 0; i < words; i++) {
            if (matcher.isMatch(first, probe, mode) && !matcher.isMatch(second, probe, mode)) {
                return true;
            }
            probe.advance(bench.letters);
        }
        return false;
    }

    private int wordsOfLength(int length) {
        int words = 1;
        for (int i = 0; i < length; i++) {
            words *= bench.letters;
        }
        return words;
    }

    // Arrays

    public int allocate(int slot, int type, int size) {
        if (!isSlot(slot) || type < BYTES || type > BOOLEANS || size > ARRAY_LIMIT) {
            return BAD_ARGUMENT;
        }
        if (size < 0) {
            return NEGATIVE_SIZE;
        }
        slots[slot].type = type;
        slots[slot].elements.fillWith(0, size);
        return size;
    }

    public int release(int slot) {
        if (!isSlot(slot)) {
            return BAD_ARGUMENT;
        }
        boolean held = slots[slot].type != EMPTY;
        slots[slot].type = EMPTY;
        return held ? 1 : 0;
    }

    public int putElement(int slot, int index, long value) {
        if (!isSlot(slot)) {
            return BAD_ARGUMENT;
        }
        Slot held = slots[slot];
        if (held.type == EMPTY) {
            return EMPTY_SLOT;
        }
        if (!held.elements.hasIndex(index)) {
            return INDEX_OUT_OF_RANGE;
        }
        held.elements.put(index, narrowed(value, held.type));
        return 1;
    }

    private static int narrowed(long value, int type) {
        switch (type) {
            case BYTES:
                return (byte) value;
            case CHARS:
                return (char) value;
            case INTS:
                return (int) value;
            default:
                return value != 0 ? 1 : 0;
        }
    }

    public long element(int slot, int index) {
        if (!isSlot(slot) || slots[slot].type == EMPTY) {
            return NO_VALUE;
        }
        Row elements = slots[slot].elements;
        return elements.hasIndex(index) ? elements.at(index) : NO_VALUE;
    }

    public int copyElements(int source, int sourceIndex, int target, int targetIndex, int count) {
        if (!isSlot(source) || !isSlot(target)) {
            return BAD_ARGUMENT;
        }
        Slot from = slots[source];
        Slot to = slots[target];
        if (from.type == EMPTY || to.type == EMPTY) {
            return EMPTY_SLOT;
        }
        if (from.type != to.type) {
            return WRONG_TYPE;
        }
        if (!from.elements.hasRange(sourceIndex, count) || !to.elements.hasRange(targetIndex, count)) {
            return INDEX_OUT_OF_RANGE;
        }
        System.arraycopy(from.elements.items, sourceIndex, to.elements.items, targetIndex, count);
        return count;
    }

    public int loadPattern(int register, int slot) {
        if (!isRegister(register)) {
            return NO_SUCH_REGISTER;
        }
        if (!isSlot(slot)) {
            return BAD_ARGUMENT;
        }
        if (slots[slot].type == EMPTY) {
            return EMPTY_SLOT;
        }
        if (slots[slot].type != CHARS) {
            return WRONG_TYPE;
        }
        return readPattern(slots[slot].elements) ? store(register, draft) : BAD_INPUT;
    }

    private static boolean isSlot(int slot) {
        return slot >= 0 && slot < SLOTS;
    }

    // The snapshot

    public int snapshot() {
        saved.setTo(bench);
        hasSnapshot = true;
        return bench.sampleSize;
    }

    public int restore() {
        if (!hasSnapshot) {
            return NONE;
        }
        bench.setTo(saved);
        return bench.sampleSize;
    }

    /** Numbers in a row, up to a fixed room: a word, a pattern, the input buffer or an array. */
    private static final class Row {
        final int[] items;
        int size = 0;

        Row(int room) {
            items = new int[Math.max(room, 0)];
        }

        boolean hasIndex(int index) {
            return index >= 0 && index < size && index < items.length;
        }

        /** The sums of index and count would overflow, so the count is held against the rest. */
        boolean hasRange(int index, int count) {
            return index >= 0 && index <= size && count >= 0 && count <= size - index;
        }

        /** Letters and variables have codes from 0, so that NO_SYMBOL equals none of them. */
        int at(int index) {
            boolean isThere = index >= 0 && index < size && index < items.length;
            return isThere ? items[index] : NO_SYMBOL;
        }

        void put(int index, int item) {
            if (hasIndex(index)) {
                items[index] = item;
            }
        }

        boolean add(int item) {
            if (size < 0 || size >= items.length) {
                return false;
            }
            items[size] = item;
            size++;
            return true;
        }

        boolean addAll(Row other) {
            boolean hasRoom = true;
            for (int i = 0; i < other.size && hasRoom; i++) {
                hasRoom = add(other.at(i));
            }
            return hasRoom;
        }

        void removeLast() {
            if (size > 0) {
                size--;
            }
        }

        void clear() {
            size = 0;
        }

        /** The size changes last, since a row may be set to itself. */
        void setTo(Row other) {
            int count = Math.min(other.size, items.length);
            for (int i = 0; i < count; i++) {
                items[i] = other.at(i);
            }
            size = count;
        }

        void fillWith(int item, int count) {
            clear();
            for (int i = 0; i < count; i++) {
                add(item);
            }
        }

        int countOf(int item) {
            int found = 0;
            for (int i = 0; i < size; i++) {
                if (at(i) == item) {
                    found++;
                }
            }
            return found;
        }

        int letterCount() {
            int found = 0;
            for (int i = 0; i < size; i++) {
                if (at(i) < FIRST_VARIABLE) {
                    found++;
                }
            }
            return found;
        }

        /** Right for canonical patterns only, as it tells the highest variable's place. */
        int variablesIn() {
            int count = 0;
            for (int i = 0; i < size; i++) {
                count = Math.max(count, at(i) - FIRST_VARIABLE + 1);
            }
            return count;
        }

        void putForCodes(int lowest, int highest, int code) {
            for (int i = 0; i < size; i++) {
                if (at(i) >= lowest && at(i) <= highest) {
                    put(i, code);
                }
            }
        }

        void exchange(int one, int other) {
            for (int i = 0; i < size; i++) {
                if (at(i) == one) {
                    put(i, other);
                } else if (at(i) == other) {
                    put(i, one);
                }
            }
        }

        void turnAround() {
            for (int left = 0, right = size - 1; left < right; left++, right--) {
                int kept = at(left);
                put(left, at(right));
                put(right, kept);
            }
        }

        /** A variable above the next new one stands here first, so the two change their names. */
        void makeCanonical() {
            int next = FIRST_VARIABLE;
            for (int i = 0; i < size; i++) {
                if (at(i) > next) {
                    exchange(at(i), next);
                }
                if (at(i) == next) {
                    next++;
                }
            }
        }

        long wordCode() {
            long code = 0;
            long weight = 1;
            for (int i = 0; i < size; i++) {
                code += (at(i) + 1) * weight;
                weight *= 4;
            }
            return code;
        }

        /** To the alphabetically next word; the last word is followed by the first one. */
        void advance(int letters) {
            for (int i = size - 1; i >= 0; i--) {
                if (at(i) + 1 < letters) {
                    put(i, at(i) + 1);
                    return;
                }
                put(i, 0);
            }
        }
    }

    /** What a snapshot takes and a reset makes new. */
    private static final class Bench {
        int letters;
        final Row[] registers = new Row[REGISTERS];
        final Row[] images = new Row[VARIABLES];
        final Row[] sample = new Row[SAMPLE_LIMIT];
        int sampleSize;

        Bench() {
            makeRows(registers);
            makeRows(images);
            makeRows(sample);
            begin(INITIAL_LETTERS);
        }

        private static void makeRows(Row[] rows) {
            for (int i = 0; i < rows.length; i++) {
                rows[i] = new Row(SYMBOL_LIMIT);
            }
        }

        void begin(int newLetters) {
            letters = newLetters;
            for (int i = 0; i < registers.length; i++) {
                registers[i].fillWith(FIRST_VARIABLE, 1);
            }
            for (int i = 0; i < images.length; i++) {
                images[i].fillWith(0, 1);
            }
            sampleSize = 0;
        }

        void setTo(Bench other) {
            letters = other.letters;
            copyRows(other.registers, registers);
            copyRows(other.images, images);
            copyRows(other.sample, sample);
            sampleSize = other.sampleSize;
        }

        private static void copyRows(Row[] from, Row[] to) {
            for (int i = 0; i < from.length && i < to.length; i++) {
                to[i].setTo(from[i]);
            }
        }
    }

    /** An array slot; all four element types fit into ints. */
    private static final class Slot {
        int type = EMPTY;
        final Row elements = new Row(ARRAY_LIMIT);
    }

    /**
     * Matches a pattern against a text, from left to right. In a canonical pattern the variables
     * are met in the order X, Y, Z, W, so that trying short words first gives the matches in the
     * order of the document.
     *
     * <p>The slack is by how much the text is longer than the pattern must be with the variables
     * bound so far; it shows early that lengths can't come out even.
     */
    private static final class Matcher {
        private final int[] starts = new int[VARIABLES];
        private final int[] sizes = new int[VARIABLES];
        private final int[] uses = new int[VARIABLES];
        private int variables;
        private int leastSize;
        /** How much slack may be left at the pattern's end. */
        private int spare;

        /** After a match, the words of the variables can be asked for. */
        boolean isMatch(Row pattern, Row text, int mode) {
            return isMatchBefore(pattern, text, mode, 0, 0);
        }

        /** Whether the pattern matches the text but for a tail with a length of these bounds. */
        boolean isMatchBefore(Row pattern, Row text, int mode, int leastTail, int mostTail) {
            int slack = text.size - prepare(pattern, mode) - leastTail;
            spare = mostTail - leastTail;
            return canComeOut(slack) && count(pattern, 0, text, 0, slack, 1) > 0;
        }

        int countAll(Row pattern, Row text, int mode) {
            int slack = text.size - prepare(pattern, mode);
            spare = 0;
            return canComeOut(slack) ? count(pattern, 0, text, 0, slack, Integer.MAX_VALUE) : 0;
        }

        void writeImage(int variable, Row text, Row image) {
            image.clear();
            if (!isVariable(variable)) {
                return;
            }
            for (int i = 0; i < sizes[variable]; i++) {
                image.add(text.at(starts[variable] + i));
            }
        }

        /** Forgets all bindings; returns how long a text of the pattern is at least. */
        private int prepare(Row pattern, int mode) {
            leastSize = mode == ERASING ? 0 : 1;
            variables = 0;
            for (int i = 0; i < VARIABLES; i++) {
                sizes[i] = UNBOUND;
                uses[i] = 0;
            }
            int need = 0;
            for (int i = 0; i < pattern.size; i++) {
                int variable = pattern.at(i) - FIRST_VARIABLE;
                if (isVariable(variable)) {
                    uses[variable]++;
                    variables = Math.max(variables, variable + 1);
                    need += leastSize;
                } else {
                    need++;
                }
            }
            return need;
        }

        private boolean canComeOut(int slack) {
            return slack >= 0 && (variables > 0 || slack <= spare);
        }

        /** Counts matches from a position of the pattern on; the limit spares needless ones. */
        private int count(Row pattern, int position, Row text, int at, int slack, int limit) {
            if (position >= pattern.size) {
                return slack <= spare ? 1 : 0;
            }
            int code = pattern.at(position);
            int variable = code - FIRST_VARIABLE;
            if (!isVariable(variable)) {
                boolean isHere = text.at(at) == code;
                return isHere ? count(pattern, position + 1, text, at + 1, slack, limit) : 0;
            }
            int size = sizes[variable];
            if (size == UNBOUND) {
                return countBindings(pattern, position, text, at, slack, limit);
            }
            boolean repeats = isSame(text, starts[variable], at, size);
            return repeats ? count(pattern, position + 1, text, at + size, slack, limit) : 0;
        }

        /** With the limit reached, the variable stays bound, so that the match can be read. */
        private int countBindings(
                Row pattern, int position, Row text, int at, int slack, int limit) {
            int variable = pattern.at(position) - FIRST_VARIABLE;
            if (!isVariable(variable) || uses[variable] < 1) {
                return 0;
            }
            boolean isLast = variable == variables - 1;
            int mostMore = slack / uses[variable];
            int found = 0;
            starts[variable] = at;
            for (int more = 0; more <= mostMore && found < limit; more++) {
                int slackLeft = slack - more * uses[variable];
                if (!isLast || slackLeft <= spare) {
                    int size = leastSize + more;
                    sizes[variable] = size;
                    found += count(pattern, position + 1, text, at + size, slackLeft, limit - found);
                }
            }
            if (found < limit) {
                sizes[variable] = UNBOUND;
            }
            return found;
        }

        private static boolean isSame(Row text, int one, int other, int size) {
            for (int i = 0; i < size; i++) {
                if (text.at(one + i) != text.at(other + i)) {
                    return false;
                }
            }
            return true;
        }
    }

    /**
     * Looks for patterns that fit the sample. For each number of letters and of variables the
     * canonical patterns are built in the order of their codes, so that the first one that fits
     * is the best one.
     */
    private static final class Search {
        private final Matcher matcher = new Matcher();
        final Row candidate = new Row(SYMBOL_LIMIT);
        private int length;
        private int variables;
        private int mode;

        /** Leaves the best fitting pattern of the length in the candidate. */
        boolean findBest(Bench bench, int goalLength, int goalMode) {
            length = goalLength;
            mode = goalMode;
            candidate.clear();
            for (int letters = goalLength; letters >= 0; letters--) {
                int places = goalLength - letters;
                int most = Math.min(places, VARIABLES);
                for (int count = Math.min(places, 1); count <= most; count++) {
                    variables = count;
                    if (complete(bench, 0, letters, 0)) {
                        return true;
                    }
                }
            }
            return false;
        }

        /** Leaves the best of the longest fitting patterns with X alone in the candidate. */
        boolean findLongestOfX(Bench bench) {
            variables = 1;
            mode = 0;
            candidate.clear();
            for (int symbols = LONGEST_ONE_VARIABLE; symbols >= 1; symbols--) {
                length = symbols;
                for (int letters = symbols - 1; letters >= 0; letters--) {
                    if (canStretch(bench, letters, symbols - letters)
                            && complete(bench, 0, letters, 0)) {
                        return true;
                    }
                }
            }
            return false;
        }

        /** Without this look at the lengths, most of the search would be for nothing. */
        private static boolean canStretch(Bench bench, int letters, int places) {
            if (places < 1) {
                return false;
            }
            for (int i = 0; i < bench.sampleSize && i < SAMPLE_LIMIT; i++) {
                int rest = bench.sample[i].size - letters;
                if (rest < places || rest % places != 0) {
                    return false;
                }
            }
            return true;
        }

        /** Takes the candidate, of as many symbols as the position tells, to its full length. */
        private boolean complete(Bench bench, int position, int lettersLeft, int variablesUsed) {
            int places = length - position - lettersLeft;
            if (!canBegin(bench, lettersLeft, places)) {
                return false;
            }
            if (position >= length) {
                return true;
            }
            int letters = lettersLeft > 0 ? bench.letters : 0;
            for (int letter = 0; letter < letters; letter++) {
                candidate.add(letter);
                if (complete(bench, position + 1, lettersLeft - 1, variablesUsed)) {
                    return true;
                }
                candidate.removeLast();
            }
            return places > 0 && completeWithVariable(bench, position, lettersLeft, variablesUsed);
        }

        /** An old variable may stand here only if places enough are left for the new ones. */
        private boolean completeWithVariable(
                Bench bench, int position, int lettersLeft, int variablesUsed) {
            int places = length - position - lettersLeft;
            boolean mayRepeat = places > variables - variablesUsed;
            int lowest = mayRepeat ? 0 : variablesUsed;
            int highest = Math.min(variablesUsed, variables - 1);
            for (int variable = lowest; variable <= highest; variable++) {
                int used = Math.max(variablesUsed, variable + 1);
                candidate.add(FIRST_VARIABLE + variable);
                if (complete(bench, position + 1, lettersLeft, used)) {
                    return true;
                }
                candidate.removeLast();
            }
            return false;
        }

        /** Whether each word of the sample can begin with the candidate and leaves what is due. */
        private boolean canBegin(Bench bench, int lettersLeft, int places) {
            int leastTail = lettersLeft + (mode == ERASING ? 0 : places);
            int mostTail = places > 0 ? SYMBOL_LIMIT : lettersLeft;
            for (int i = 0; i < bench.sampleSize && i < SAMPLE_LIMIT; i++) {
                if (!matcher.isMatchBefore(candidate, bench.sample[i], mode, leastTail, mostTail)) {
                    return false;
                }
            }
            return true;
        }
    }
}
