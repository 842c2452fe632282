/**
 * A bench of stochastic bits: lines of ones and zeros whose share of ones is a number.
 *
 * Every row is made by the constructor and used again: no call makes an object.
 */
public final class ShareStreams {
    public static final int UNKNOWN = -100000001;
    public static final int BAD_VALUE = -100000002;
    public static final int FULL = -100000003;
    public static final int NOT_POSSIBLE = -100000004;
    public static final int NONE = -100000005;

    private static final int FAULT = -100000100;
    private static final int NO_FAULT = -1;
    private static final int NO_NUMBER = -1;
    private static final int NO_KIND = -1;

    private static final int WHOLE = 65536;
    private static final int MOST_LINES = 16;
    private static final int MOST_NUMBERS = 3;
    private static final int MOST_STATES = 4;
    private static final int MOST_CHARACTERS = 80;
    private static final int MOST_LENGTH = 1000;
    private static final int FIRST_LENGTH = 256;
    private static final int MOST_SHARE = 256;
    private static final int MOST_SEED = 255;
    private static final int MOST_DELAY = 60;
    private static final int PERIOD = 255;
    private static final int WORD_TICKS = 64;
    private static final int MOST_WORDS = 16;

    private static final int SOURCE = 0;
    private static final int PRODUCT = 1;
    private static final int SUM = 2;
    private static final int DIFFERENCE = 3;
    private static final int CHOICE = 4;
    private static final int TURNED = 5;
    private static final int DELAY = 6;
    private static final int KINDS = 7;

    /** By kind: how many numbers make a line, and how many of them, the first ones, are lines. */
    private static final int[] NUMBERS_OF_KIND = {2, 2, 2, 2, 3, 1, 2};
    private static final int[] LINES_OF_KIND = {0, 2, 2, 2, 3, 1, 1};

    private final Bench bench = new Bench();
    private final Bench snapshot = new Bench();
    private boolean hasSnapshot = false;
    /** A bench for drafts and trials, which never tells anything from one call to the next. */
    private final Bench spare = new Bench();
    private final History history = new History();
    private final CircuitText text = new CircuitText();
    private final Figures figures = new Figures();
    private final Streams streams = new Streams();

    public ShareStreams() {
    }

    // ---- lines

    public int source(int share, int seed) {
        if (!isShareAndSeed(share, seed)) {
            return BAD_VALUE;
        }
        return addLine(SOURCE, share, seed, 0);
    }

    public int gate(int kind, int one, int other) {
        if (!bench.has(one) || !bench.has(other)) {
            return UNKNOWN;
        }
        if (!isWithin(kind, PRODUCT, DIFFERENCE)) {
            return BAD_VALUE;
        }
        return addLine(kind, one, other, 0);
    }

    public int choose(int one, int other, int choice) {
        if (!bench.has(one) || !bench.has(other) || !bench.has(choice)) {
            return UNKNOWN;
        }
        return addLine(CHOICE, one, other, choice);
    }

    public int turn(int line) {
        if (!bench.has(line)) {
            return UNKNOWN;
        }
        return addLine(TURNED, line, 0, 0);
    }

    public int delay(int line, int ticks) {
        if (!bench.has(line)) {
            return UNKNOWN;
        }
        if (!isWithin(ticks, 1, MOST_DELAY)) {
            return BAD_VALUE;
        }
        return addLine(DELAY, line, ticks, 0);
    }

    public int reseed(int line, int share, int seed) {
        if (!bench.has(line)) {
            return UNKNOWN;
        }
        if (!isShareAndSeed(share, seed)) {
            return BAD_VALUE;
        }
        if (bench.kindOf(line) != SOURCE) {
            return NOT_POSSIBLE;
        }
        int previous = bench.numberOf(line, 1);
        if (previous == share && bench.numberOf(line, 2) == seed) {
            return NONE;
        }
        history.push(bench);
        bench.setSource(line, share, seed);
        return previous;
    }

    public int removeLast() {
        if (bench.size == 0) {
            return NONE;
        }
        history.push(bench);
        bench.dropLast();
        return bench.size;
    }

    public int setLength(int length) {
        if (!isWithin(length, 1, MOST_LENGTH)) {
            return BAD_VALUE;
        }
        int previous = bench.length;
        if (previous == length) {
            return NONE;
        }
        history.push(bench);
        bench.length = length;
        return previous;
    }

    public int readCircuit() {
        int fault = text.readInto(spare);
        if (fault != NO_FAULT) {
            return FAULT - fault;
        }
        if (!isMadeOfLinesAhead(spare, bench.size)) {
            return UNKNOWN;
        }
        if (bench.size + spare.size > MOST_LINES) {
            return FULL;
        }
        history.push(bench);
        bench.addAll(spare);
        return bench.size;
    }

    // ---- texts

    public int type(char character) {
        if (text.size >= MOST_CHARACTERS) {
            return FULL;
        }
        text.append(character);
        return text.size;
    }

    public int clearText() {
        int previous = text.size;
        text.size = 0;
        return previous;
    }

    // ---- history

    public int undo() {
        if (history.size == 0) {
            return NONE;
        }
        history.popInto(bench);
        return history.size;
    }

    public int keep() {
        snapshot.copyFrom(bench);
        hasSnapshot = true;
        return bench.size;
    }

    public int restore() {
        if (!hasSnapshot) {
            return NONE;
        }
        history.push(bench);
        bench.copyFrom(snapshot);
        return bench.size;
    }

    // ---- what is told

    public int line(int line, int what) {
        if (!bench.has(line)) {
            return UNKNOWN;
        }
        switch (what) {
            case 0:
                return bench.kindOf(line);
            case 1:
            case 2:
            case 3:
                return what > numbersOfKind(bench.kindOf(line)) ? NONE : bench.numberOf(line, what);
            case 4:
                return onesOver(line, bench.length);
            case 5:
                return shareOf(onesOver(line, bench.length), bench.length);
            case 6:
                figures.workOut(bench);
                return figures.exactShareOf(line);
            case 7:
                return errorOver(line, bench.length);
            case 8:
                figures.workOut(bench);
                return figures.depthOf(line);
            case 9:
                figures.workOut(bench);
                return figures.sourcesOf(line);
            default:
                return BAD_VALUE;
        }
    }

    public int bit(int line, int tick) {
        if (!bench.has(line)) {
            return UNKNOWN;
        }
        if (!isWithin(tick, 0, MOST_LENGTH - 1)) {
            return BAD_VALUE;
        }
        streams.fill(bench, line, tick + 1);
        return streams.bitAt(line, tick);
    }

    public int overlap(int one, int other) {
        if (!bench.has(one) || !bench.has(other)) {
            return UNKNOWN;
        }
        long ticks = bench.length;
        if (ticks < 1) {
            return 0;
        }
        streams.fill(bench, Math.max(one, other), bench.length);
        long both = streams.onesInBoth(one, other, bench.length);
        long product = (long) streams.onesIn(one, bench.length) * streams.onesIn(other, bench.length);
        return (int) ((both * ticks - product) * WHOLE / (ticks * ticks));
    }

    public int errorAt(int line, int length) {
        if (!bench.has(line)) {
            return UNKNOWN;
        }
        if (!isWithin(length, 1, MOST_LENGTH)) {
            return BAD_VALUE;
        }
        return errorOver(line, length);
    }

    public int settles(int line, int bound) {
        if (!bench.has(line)) {
            return UNKNOWN;
        }
        if (!isWithin(bound, 0, WHOLE)) {
            return BAD_VALUE;
        }
        int last = lastLengthBeyond(line, bound);
        return last == MOST_LENGTH ? NONE : last + 1;
    }

    public int bestSeed(int source, int line, int what) {
        if (!bench.has(source) || !bench.has(line)) {
            return UNKNOWN;
        }
        if (!isWithin(what, 0, 1)) {
            return BAD_VALUE;
        }
        if (bench.kindOf(source) != SOURCE) {
            return NOT_POSSIBLE;
        }
        figures.workOut(bench);
        streams.fill(bench, line, bench.length);
        spare.copyFrom(bench);
        int bestSeed = 1;
        int leastError = errorWithSeed(source, line, bestSeed);
        for (int seed = 2; seed <= MOST_SEED; seed++) {
            int error = errorWithSeed(source, line, seed);
            if (error < leastError) {
                bestSeed = seed;
                leastError = error;
            }
        }
        return what == 0 ? bestSeed : leastError;
    }

    public int unlike(int line) {
        if (!bench.has(line)) {
            return UNKNOWN;
        }
        streams.fill(bench, line, 2 * PERIOD);
        int unlike = 0;
        for (int tick = MOST_DELAY; tick < PERIOD; tick++) {
            if (streams.bitAt(line, tick) != streams.bitAt(line, tick + PERIOD)) {
                unlike++;
            }
        }
        return unlike;
    }

    public int count(int what) {
        switch (what) {
            case 0:
                return bench.size;
            case 1:
                return bench.length;
            case 2:
                return bench.sources();
            case 3:
                return sumOfErrors();
            case 4:
                return lineWithGreatestError();
            case 5:
                figures.workOut(bench);
                return figures.greatestDepth(bench.size);
            case 6:
                return history.size;
            case 7:
                return text.size;
            default:
                return BAD_VALUE;
        }
    }

    // ---- helpers

    private int addLine(int kind, int first, int second, int third) {
        if (bench.size >= MOST_LINES) {
            return FULL;
        }
        history.push(bench);
        bench.add(kind, first, second, third);
        return bench.size - 1;
    }

    private int onesOver(int line, int ticks) {
        streams.fill(bench, line, ticks);
        return streams.onesIn(line, ticks);
    }

    private int errorOver(int line, int ticks) {
        figures.workOut(bench);
        streams.fill(bench, line, ticks);
        return errorOfFilled(line, ticks);
    }

    /** Asks for the figures and the streams of the line to be worked out already. */
    private int errorOfFilled(int line, int ticks) {
        return errorOfCount(line, streams.onesIn(line, ticks), ticks);
    }

    private int errorOfCount(int line, int ones, int ticks) {
        return Math.abs(shareOf(ones, ticks) - figures.exactShareOf(line));
    }

    /** The greatest length at which the error is greater than the bound; 0 if there is none. */
    private int lastLengthBeyond(int line, int bound) {
        figures.workOut(bench);
        streams.fill(bench, line, MOST_LENGTH);
        int last = 0;
        int ones = 0;
        for (int ticks = 1; ticks <= MOST_LENGTH; ticks++) {
            ones += streams.bitAt(line, ticks - 1);
            if (errorOfCount(line, ones, ticks) > bound) {
                last = ticks;
            }
        }
        return last;
    }

    /** Tries a seed in the spare bench, which bestSeed has made a copy: the bench itself stays. */
    private int errorWithSeed(int source, int line, int seed) {
        spare.setSource(source, spare.numberOf(source, 1), seed);
        streams.refill(spare, source, line, spare.length);
        return errorOfFilled(line, spare.length);
    }

    private int sumOfErrors() {
        fillAll();
        int sum = 0;
        for (int line = 0; line < bench.size; line++) {
            sum += errorOfFilled(line, bench.length);
        }
        return sum;
    }

    private int lineWithGreatestError() {
        fillAll();
        int found = NONE;
        int greatest = -1;
        for (int line = 0; line < bench.size; line++) {
            int error = errorOfFilled(line, bench.length);
            if (error > greatest) {
                greatest = error;
                found = line;
            }
        }
        return found;
    }

    private void fillAll() {
        figures.workOut(bench);
        streams.fill(bench, bench.size - 1, bench.length);
    }

    private static boolean isMadeOfLinesAhead(Bench draft, int linesAhead) {
        for (int line = 0; line < draft.size; line++) {
            int lines = linesOfKind(draft.kindOf(line));
            for (int which = 1; which <= lines; which++) {
                if (draft.numberOf(line, which) >= linesAhead + line) {
                    return false;
                }
            }
        }
        return true;
    }

    private static int shareOf(int ones, int ticks) {
        return ticks < 1 ? 0 : ones * WHOLE / ticks;
    }

    private static boolean isShareAndSeed(int share, int seed) {
        return isWithin(share, 0, MOST_SHARE) && isWithin(seed, 1, MOST_SEED);
    }

    private static boolean isWithin(int value, int least, int most) {
        return value >= least && value <= most;
    }

    private static int numbersOfKind(int kind) {
        return elementAt(NUMBERS_OF_KIND, kind);
    }

    private static int linesOfKind(int kind) {
        return elementAt(LINES_OF_KIND, kind);
    }

    private static int elementAt(int[] row, int index) {
        return index < 0 || index >= row.length ? 0 : row[index];
    }

    private static void setElement(int[] row, int index, int value) {
        if (index >= 0 && index < row.length) {
            row[index] = value;
        }
    }

    /** A state: the lines with the numbers that make them, and the length. */
    private static final class Bench {
        private int length = FIRST_LENGTH;
        private int size = 0;
        private final int[] kinds = new int[MOST_LINES];
        private final int[] numbers = new int[MOST_LINES * MOST_NUMBERS];

        private boolean has(int line) {
            return line >= 0 && line < size;
        }

        private int kindOf(int line) {
            return elementAt(kinds, line);
        }

        /** The first (1), second (2) or third (3) number that makes a line. */
        private int numberOf(int line, int which) {
            return elementAt(numbers, line * MOST_NUMBERS + which - 1);
        }

        private void setNumber(int line, int which, int value) {
            setElement(numbers, line * MOST_NUMBERS + which - 1, value);
        }

        private int sources() {
            int sources = 0;
            for (int line = 0; line < size; line++) {
                if (kindOf(line) == SOURCE) {
                    sources++;
                }
            }
            return sources;
        }

        private void add(int kind, int first, int second, int third) {
            if (size >= MOST_LINES) {
                return;
            }
            setElement(kinds, size, kind);
            setNumber(size, 1, first);
            setNumber(size, 2, second);
            setNumber(size, 3, third);
            size++;
        }

        private void addAll(Bench other) {
            for (int line = 0; line < other.size; line++) {
                add(other.kindOf(line), other.numberOf(line, 1), other.numberOf(line, 2), other.numberOf(line, 3));
            }
        }

        private void setSource(int line, int share, int seed) {
            setNumber(line, 1, share);
            setNumber(line, 2, seed);
        }

        private void dropLast() {
            if (size > 0) {
                size--;
            }
        }

        private void copyFrom(Bench other) {
            length = other.length;
            size = 0;
            addAll(other);
        }
    }

    /** The latest states, in a ring, so that the oldest one is overwritten when the ring is full. */
    private static final class History {
        private final Bench[] states = new Bench[MOST_STATES];
        private int oldest = 0;
        private int size = 0;

        private History() {
            for (int index = 0; index < states.length; index++) {
                states[index] = new Bench();
            }
        }

        private void push(Bench bench) {
            Bench state = stateAt(size);
            if (state == null) {
                return;
            }
            state.copyFrom(bench);
            if (size < MOST_STATES) {
                size++;
            } else {
                oldest = (oldest + 1) % MOST_STATES;
            }
        }

        private void popInto(Bench bench) {
            Bench state = stateAt(size - 1);
            if (size == 0 || state == null) {
                return;
            }
            bench.copyFrom(state);
            size--;
        }

        private Bench stateAt(int age) {
            int index = Math.floorMod(oldest + age, MOST_STATES);
            return index < 0 || index >= states.length ? null : states[index];
        }
    }

    /** What follows from how the lines are made, without their bits. */
    private static final class Figures {
        private final int[] exactShares = new int[MOST_LINES];
        private final int[] depths = new int[MOST_LINES];
        /** A bit for each source that a line comes from. */
        private final int[] origins = new int[MOST_LINES];

        /** From the first line on, as each line is made of lines ahead of it. */
        private void workOut(Bench bench) {
            for (int line = 0; line < bench.size; line++) {
                setElement(exactShares, line, exactShareIn(bench, line));
                setElement(depths, line, depthIn(bench, line));
                setElement(origins, line, originsIn(bench, line));
            }
        }

        private int exactShareOf(int line) {
            return elementAt(exactShares, line);
        }

        private int depthOf(int line) {
            return elementAt(depths, line);
        }

        private int sourcesOf(int line) {
            return Integer.bitCount(elementAt(origins, line));
        }

        private int greatestDepth(int lines) {
            int greatest = 0;
            for (int line = 0; line < lines; line++) {
                greatest = Math.max(greatest, depthOf(line));
            }
            return greatest;
        }

        private int exactShareIn(Bench bench, int line) {
            int first = bench.numberOf(line, 1);
            int second = bench.numberOf(line, 2);
            int one = exactShareOf(first);
            switch (bench.kindOf(line)) {
                case SOURCE:
                    return first * (WHOLE / MOST_SHARE);
                case PRODUCT:
                    return productOf(one, exactShareOf(second));
                case SUM:
                    return one + exactShareOf(second) - productOf(one, exactShareOf(second));
                case DIFFERENCE:
                    return one + exactShareOf(second) - 2 * productOf(one, exactShareOf(second));
                case CHOICE:
                    return mixOf(one, exactShareOf(second), exactShareOf(bench.numberOf(line, 3)));
                case TURNED:
                    return WHOLE - one;
                default:
                    return one;
            }
        }

        private static int productOf(long one, long other) {
            return (int) (one * other / WHOLE);
        }

        private static int mixOf(long one, long other, long choice) {
            return (int) ((one * choice + other * (WHOLE - choice)) / WHOLE);
        }

        private int depthIn(Bench bench, int line) {
            int depth = 0;
            int lines = linesOfKind(bench.kindOf(line));
            for (int which = 1; which <= lines; which++) {
                depth = Math.max(depth, 1 + depthOf(bench.numberOf(line, which)));
            }
            return depth;
        }

        private int originsIn(Bench bench, int line) {
            if (bench.kindOf(line) == SOURCE) {
                return 1 << line;
            }
            int found = 0;
            int lines = linesOfKind(bench.kindOf(line));
            for (int which = 1; which <= lines; which++) {
                found |= elementAt(origins, bench.numberOf(line, which));
            }
            return found;
        }
    }

    /** The bits of the lines, 64 ticks in a word, the earliest one in the lowest bit. */
    private static final class Streams {
        private final long[][] rows = new long[MOST_LINES][MOST_WORDS];

        /** Works out all lines up to the last one that is asked for. */
        private void fill(Bench bench, int last, int ticks) {
            for (int line = 0; line <= last && line < MOST_LINES; line++) {
                fillRow(bench, line, ticks);
            }
        }

        /** Works out anew what a source can have changed, itself and the made lines behind it. */
        private void refill(Bench bench, int source, int last, int ticks) {
            for (int line = source; line <= last && line < MOST_LINES; line++) {
                if (line == source || bench.kindOf(line) != SOURCE) {
                    fillRow(bench, line, ticks);
                }
            }
        }

        private void fillRow(Bench bench, int line, int ticks) {
            int words = (ticks + WORD_TICKS - 1) / WORD_TICKS;
            if (bench.kindOf(line) == SOURCE) {
                fillSource(line, bench.numberOf(line, 1), bench.numberOf(line, 2), words);
                return;
            }
            for (int word = 0; word < words; word++) {
                setWord(line, word, madeWord(bench, line, word));
            }
        }

        private void fillSource(int line, int share, int seed, int words) {
            int register = seed;
            for (int word = 0; word < words; word++) {
                long bits = 0;
                for (int tick = 0; tick < WORD_TICKS; tick++) {
                    if (register <= share) {
                        bits |= 1L << tick;
                    }
                    register = nextRegister(register);
                }
                setWord(line, word, bits);
            }
        }

        private static int nextRegister(int register) {
            int doubled = register * 2;
            return doubled < 256 ? doubled : (doubled - 256) ^ 29;
        }

        private long madeWord(Bench bench, int line, int word) {
            int first = bench.numberOf(line, 1);
            int second = bench.numberOf(line, 2);
            long one = wordAt(first, word);
            switch (bench.kindOf(line)) {
                case PRODUCT:
                    return one & wordAt(second, word);
                case SUM:
                    return one | wordAt(second, word);
                case DIFFERENCE:
                    return one ^ wordAt(second, word);
                case CHOICE:
                    long choice = wordAt(bench.numberOf(line, 3), word);
                    return (one & choice) | (wordAt(second, word) & ~choice);
                case TURNED:
                    return ~one;
                default:
                    // A delay is shorter than a word, so only the word before it reaches in.
                    return (one << second) | (wordAt(first, word - 1) >>> (WORD_TICKS - second));
            }
        }

        private int bitAt(int line, int tick) {
            return (int) (wordAt(line, tick / WORD_TICKS) >>> (tick % WORD_TICKS)) & 1;
        }

        private int onesIn(int line, int ticks) {
            return onesInBoth(line, line, ticks);
        }

        private int onesInBoth(int one, int other, int ticks) {
            int ones = 0;
            int wholeWords = ticks / WORD_TICKS;
            for (int word = 0; word < wholeWords; word++) {
                ones += Long.bitCount(wordAt(one, word) & wordAt(other, word));
            }
            long rest = (1L << (ticks % WORD_TICKS)) - 1;
            return ones + Long.bitCount(wordAt(one, wholeWords) & wordAt(other, wholeWords) & rest);
        }

        private long wordAt(int line, int word) {
            if (line < 0 || line >= rows.length) {
                return 0;
            }
            long[] row = rows[line];
            return word < 0 || word >= row.length ? 0 : row[word];
        }

        private void setWord(int line, int word, long bits) {
            if (line < 0 || line >= rows.length) {
                return;
            }
            long[] row = rows[line];
            if (word >= 0 && word < row.length) {
                row[word] = bits;
            }
        }
    }

    /** The text, and the reading of it as a circuit. */
    private static final class CircuitText {
        private final char[] characters = new char[MOST_CHARACTERS];
        private int size = 0;
        /** Of the first character that is not read yet: the fault, when the reading stops. */
        private int place = 0;

        private void append(char character) {
            if (size >= 0 && size < characters.length) {
                characters[size] = character;
                size++;
            }
        }

        /** Puts the lines of the text into a draft; answers the fault of the text, or NO_FAULT. */
        private int readInto(Bench draft) {
            draft.size = 0;
            place = 0;
            for (int lines = 0; lines <= MOST_CHARACTERS; lines++) {
                if (!readLine(draft)) {
                    return place;
                }
                if (place == size) {
                    return NO_FAULT;
                }
                if (!take(';')) {
                    return place;
                }
            }
            return place;
        }

        /** False if the text has a fault here, at the place that is reached. */
        private boolean readLine(Bench draft) {
            int kind = kindHere();
            if (kind == NO_KIND || !takeWord(wordOfKind(kind))) {
                return false;
            }
            draft.add(kind, 0, 0, 0);
            int numbers = numbersOfKind(kind);
            for (int which = 1; which <= numbers; which++) {
                int number = take(' ') ? readNumber(leastNumber(kind, which), mostNumber(kind, which)) : NO_NUMBER;
                if (number == NO_NUMBER) {
                    return false;
                }
                draft.setNumber(draft.size - 1, which, number);
            }
            return true;
        }

        /** No two words begin with the same letter, so the first letter tells the kind. */
        private int kindHere() {
            for (int kind = 0; kind < KINDS; kind++) {
                String word = wordOfKind(kind);
                if (!word.isEmpty() && isHere(word.charAt(0))) {
                    return kind;
                }
            }
            return NO_KIND;
        }

        private static String wordOfKind(int kind) {
            switch (kind) {
                case SOURCE:
                    return "source";
                case PRODUCT:
                    return "and";
                case SUM:
                    return "or";
                case DIFFERENCE:
                    return "xor";
                case CHOICE:
                    return "mux";
                case TURNED:
                    return "not";
                default:
                    return "delay";
            }
        }

        private static int leastNumber(int kind, int which) {
            boolean isSeedOrTicks = which == 2 && (kind == SOURCE || kind == DELAY);
            return isSeedOrTicks ? 1 : 0;
        }

        private static int mostNumber(int kind, int which) {
            if (which <= linesOfKind(kind)) {
                return MOST_LINES - 1;
            }
            if (kind == DELAY) {
                return MOST_DELAY;
            }
            return which == 1 ? MOST_SHARE : MOST_SEED;
        }

        /** Takes the digits that are allowed; what stands behind them is the caller's matter. */
        private int readNumber(int least, int most) {
            int number = digitHere();
            if (number < least) {
                return NO_NUMBER;
            }
            place++;
            // Behind a zero in front no digit is allowed.
            while (number > 0 && place < size) {
                int digit = digitHere();
                if (digit == NO_NUMBER || number * 10 + digit > most) {
                    return number;
                }
                number = number * 10 + digit;
                place++;
            }
            return number;
        }

        /** The digit at the place, or NO_NUMBER, which is less than any digit. */
        private int digitHere() {
            if (place < 0 || place >= size || place >= characters.length) {
                return NO_NUMBER;
            }
            char character = characters[place];
            return character >= '0' && character <= '9' ? character - '0' : NO_NUMBER;
        }

        private boolean takeWord(String word) {
            for (int index = 0; index < word.length(); index++) {
                if (!take(word.charAt(index))) {
                    return false;
                }
            }
            return true;
        }

        private boolean take(char character) {
            if (!isHere(character)) {
                return false;
            }
            place++;
            return true;
        }

        private boolean isHere(char character) {
            return place >= 0 && place < size && place < characters.length && characters[place] == character;
        }
    }
}
