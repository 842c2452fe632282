import java.util.ArrayList;
import java.util.List;
import java.util.regex.Matcher;
import java.util.regex.Pattern;

/**
 * The document's words once more, in the slowest and plainest form: bit by bit, with whole copies
 * of states, and with the circuits' grammar as a pattern. It is what ModelTest compares with.
 */
final class SlowBench {
    private static final int UNKNOWN = -100000001;
    private static final int BAD_VALUE = -100000002;
    private static final int FULL = -100000003;
    private static final int NOT_POSSIBLE = -100000004;
    private static final int NONE = -100000005;

    private static final String LINE = "([0-9]|1[0-5])";
    private static final String SHARE = "(0|[1-9][0-9]?|1[0-9][0-9]|2[0-4][0-9]|25[0-6])";
    private static final String SEED = "([1-9][0-9]?|1[0-9][0-9]|2[0-4][0-9]|25[0-5])";
    private static final String TICKS = "([1-9]|[1-5][0-9]|60)";
    private static final String ANY = "(source " + SHARE + " " + SEED + "|(and|or|xor) " + LINE + " " + LINE
            + "|mux " + LINE + " " + LINE + " " + LINE + "|not " + LINE + "|delay " + LINE + " " + TICKS + ")";
    private static final Pattern CIRCUIT = Pattern.compile(ANY + "(;" + ANY + ")*");

    private static final int[] NEXT = nextOfAll();

    private List<int[]> lines = new ArrayList<>();
    private int length = 256;
    private String text = "";
    private final List<SlowBench> history = new ArrayList<>();
    private SlowBench snapshot = null;

    private SlowBench copy() {
        SlowBench copy = new SlowBench();
        for (int[] line : lines) {
            copy.lines.add(line.clone());
        }
        copy.length = length;
        return copy;
    }

    private void become(SlowBench other) {
        SlowBench copy = other.copy();
        lines = copy.lines;
        length = copy.length;
    }

    private void act() {
        history.add(copy());
        if (history.size() > 4) {
            history.remove(0);
        }
    }

    private boolean unknown(int line) {
        return line < 0 || line >= lines.size();
    }

    private int add(int... line) {
        if (lines.size() == 16) {
            return FULL;
        }
        act();
        lines.add(line);
        return lines.size() - 1;
    }

    int source(int share, int seed) {
        return share < 0 || share > 256 || seed < 1 || seed > 255 ? BAD_VALUE : add(0, share, seed);
    }

    int gate(int kind, int one, int other) {
        if (unknown(one) || unknown(other)) {
            return UNKNOWN;
        }
        return kind < 1 || kind > 3 ? BAD_VALUE : add(kind, one, other);
    }

    int choose(int one, int other, int choice) {
        return unknown(one) || unknown(other) || unknown(choice) ? UNKNOWN : add(4, one, other, choice);
    }

    int turn(int line) {
        return unknown(line) ? UNKNOWN : add(5, line);
    }

    int delay(int line, int ticks) {
        return unknown(line) ? UNKNOWN : ticks < 1 || ticks > 60 ? BAD_VALUE : add(6, line, ticks);
    }

    int reseed(int line, int share, int seed) {
        if (unknown(line)) {
            return UNKNOWN;
        }
        if (share < 0 || share > 256 || seed < 1 || seed > 255) {
            return BAD_VALUE;
        }
        int[] made = lines.get(line);
        if (made[0] != 0) {
            return NOT_POSSIBLE;
        }
        if (made[1] == share && made[2] == seed) {
            return NONE;
        }
        act();
        lines.set(line, new int[] {0, share, seed});
        return made[1];
    }

    int removeLast() {
        if (lines.isEmpty()) {
            return NONE;
        }
        act();
        lines.remove(lines.size() - 1);
        return lines.size();
    }

    int setLength(int wanted) {
        if (wanted < 1 || wanted > 1000) {
            return BAD_VALUE;
        }
        if (wanted == length) {
            return NONE;
        }
        act();
        int previous = length;
        length = wanted;
        return previous;
    }

    int readCircuit() {
        if (!CIRCUIT.matcher(text).matches()) {
            return -100000100 - fault();
        }
        List<int[]> read = new ArrayList<>();
        for (String circuitLine : text.split(";")) {
            String[] words = circuitLine.split(" ");
            int[] line = new int[words.length];
            line[0] = List.of("source", "and", "or", "xor", "mux", "not", "delay").indexOf(words[0]);
            for (int index = 1; index < words.length; index++) {
                line[index] = Integer.parseInt(words[index]);
            }
            for (int made : madeOf(line)) {
                if (made >= lines.size() + read.size()) {
                    return UNKNOWN;
                }
            }
            read.add(line);
        }
        if (lines.size() + read.size() > 16) {
            return FULL;
        }
        act();
        lines.addAll(read);
        return lines.size();
    }

    /** The first index at which no circuit goes on like the text. */
    private int fault() {
        for (int end = 1; end <= text.length(); end++) {
            Matcher matcher = CIRCUIT.matcher(text.substring(0, end));
            if (!matcher.matches() && !matcher.hitEnd()) {
                return end - 1;
            }
        }
        return text.length();
    }

    int type(char character) {
        if (text.length() == 80) {
            return FULL;
        }
        text += character;
        return text.length();
    }

    int clearText() {
        int previous = text.length();
        text = "";
        return previous;
    }

    int undo() {
        if (history.isEmpty()) {
            return NONE;
        }
        become(history.remove(history.size() - 1));
        return history.size();
    }

    int keep() {
        snapshot = copy();
        return lines.size();
    }

    int restore() {
        if (snapshot == null) {
            return NONE;
        }
        act();
        become(snapshot);
        return lines.size();
    }

    int line(int line, int what) {
        if (unknown(line)) {
            return UNKNOWN;
        }
        int[] made = lines.get(line);
        switch (what) {
            case 0:
                return made[0];
            case 1:
            case 2:
            case 3:
                return what < made.length ? made[what] : NONE;
            case 4:
                return ones(line, length);
            case 5:
                return (int) (ones(line, length) * 65536L / length);
            case 6:
                return (int) exact(line);
            case 7:
                return error(line, length);
            case 8:
                return depth(line);
            case 9:
                return origins(line).size();
            default:
                return BAD_VALUE;
        }
    }

    int bit(int line, int tick) {
        return unknown(line) ? UNKNOWN : tick < 0 || tick > 999 ? BAD_VALUE : bits(line)[tick];
    }

    int overlap(int one, int other) {
        if (unknown(one) || unknown(other)) {
            return UNKNOWN;
        }
        int[] bitsOfOne = bits(one);
        int[] bitsOfOther = bits(other);
        long both = 0;
        for (int tick = 0; tick < length; tick++) {
            both += bitsOfOne[tick] * bitsOfOther[tick];
        }
        long overlap = both * length - (long) ones(one, length) * ones(other, length);
        long parts = Math.abs(overlap) * 65536 / ((long) length * length);
        return (int) (overlap < 0 ? -parts : parts);
    }

    int errorAt(int line, int wanted) {
        return unknown(line) ? UNKNOWN : wanted < 1 || wanted > 1000 ? BAD_VALUE : error(line, wanted);
    }

    int settles(int line, int bound) {
        if (unknown(line)) {
            return UNKNOWN;
        }
        if (bound < 0 || bound > 65536) {
            return BAD_VALUE;
        }
        int found = NONE;
        int ones = ones(line, 1000);
        int[] bits = bits(line);
        long exact = exact(line);
        for (int ticks = 1000; ticks >= 1 && error(ones, ticks, exact) <= bound; ticks--) {
            found = ticks;
            ones -= bits[ticks - 1];
        }
        return found;
    }

    int bestSeed(int source, int line, int what) {
        if (unknown(source) || unknown(line)) {
            return UNKNOWN;
        }
        if (what != 0 && what != 1) {
            return BAD_VALUE;
        }
        if (lines.get(source)[0] != 0) {
            return NOT_POSSIBLE;
        }
        SlowBench trial = copy();
        int best = 0;
        int least = Integer.MAX_VALUE;
        for (int seed = 1; seed <= 255; seed++) {
            trial.lines.get(source)[2] = seed;
            int error = trial.error(line, length);
            if (error < least) {
                least = error;
                best = seed;
            }
        }
        return what == 0 ? best : least;
    }

    int unlike(int line) {
        if (unknown(line)) {
            return UNKNOWN;
        }
        int[] bits = bits(line);
        int unlike = 0;
        for (int tick = 60; tick <= 254; tick++) {
            unlike += bits[tick] == bits[tick + 255] ? 0 : 1;
        }
        return unlike;
    }

    int count(int what) {
        int sources = 0;
        int sum = 0;
        int worst = NONE;
        int deepest = 0;
        for (int line = 0; line < lines.size(); line++) {
            sources += lines.get(line)[0] == 0 ? 1 : 0;
            deepest = Math.max(deepest, what == 5 ? depth(line) : 0);
            if (what == 3 || what == 4) {
                sum += error(line, length);
                worst = worst == NONE || error(line, length) > error(worst, length) ? line : worst;
            }
        }
        int[] told = {lines.size(), length, sources, sum, worst, deepest, history.size(), text.length()};
        return what < 0 || what >= told.length ? BAD_VALUE : told[what];
    }

    private static int[] madeOf(int[] line) {
        int[] howMany = {0, 2, 2, 2, 3, 1, 1};
        int[] made = new int[howMany[line[0]]];
        System.arraycopy(line, 1, made, 0, made.length);
        return made;
    }

    private int[] bits(int line) {
        int[][] all = new int[line + 1][1000];
        for (int index = 0; index <= line; index++) {
            int[] made = lines.get(index);
            int register = made[made.length - 1];
            for (int tick = 0; tick < 1000; tick++) {
                if (made[0] == 0) {
                    all[index][tick] = register <= made[1] ? 1 : 0;
                    register = NEXT[register];
                } else {
                    all[index][tick] = madeBit(all, made, tick);
                }
            }
        }
        return all[line];
    }

    private static int madeBit(int[][] all, int[] made, int tick) {
        int one = all[made[1]][tick];
        switch (made[0]) {
            case 1:
                return one * all[made[2]][tick];
            case 2:
                return Math.max(one, all[made[2]][tick]);
            case 3:
                return one == all[made[2]][tick] ? 0 : 1;
            case 4:
                return all[made[3]][tick] == 1 ? one : all[made[2]][tick];
            case 5:
                return 1 - one;
            default:
                return tick < made[2] ? 0 : all[made[1]][tick - made[2]];
        }
    }

    /** Digit by digit: the highest bit goes out, and turns the bits 4, 3, 2 and 0 about. */
    private static int[] nextOfAll() {
        int[] next = new int[256];
        for (int register = 1; register < 256; register++) {
            StringBuilder digits = new StringBuilder(Integer.toBinaryString(256 + register).substring(2)).append('0');
            for (int place : register >= 128 ? new int[] {3, 4, 5, 7} : new int[] {}) {
                digits.setCharAt(place, digits.charAt(place) == '0' ? '1' : '0');
            }
            next[register] = Integer.parseInt(digits.toString(), 2);
        }
        return next;
    }

    private int ones(int line, int ticks) {
        int[] bits = bits(line);
        int ones = 0;
        for (int tick = 0; tick < ticks; tick++) {
            ones += bits[tick];
        }
        return ones;
    }

    private int error(int line, int ticks) {
        return error(ones(line, ticks), ticks, exact(line));
    }

    private static int error(long ones, int ticks, long exact) {
        return (int) Math.abs(ones * 65536 / ticks - exact);
    }

    private long exact(int line) {
        long[] exact = new long[line + 1];
        for (int index = 0; index <= line; index++) {
            int[] made = lines.get(index);
            long one = made[0] == 0 ? 0 : exact[made[1]];
            long other = made[0] >= 1 && made[0] <= 4 ? exact[made[2]] : 0;
            long product = one * other / 65536;
            long choice = made[0] == 4 ? exact[made[3]] : 0;
            long[] byKind = {made[1] * 256L, product, one + other - product, one + other - 2 * product,
                (one * choice + other * (65536 - choice)) / 65536, 65536 - one, one};
            exact[index] = byKind[made[0]];
        }
        return exact[line];
    }

    private int depth(int line) {
        int[] depths = new int[line + 1];
        for (int index = 0; index <= line; index++) {
            for (int made : madeOf(lines.get(index))) {
                depths[index] = Math.max(depths[index], depths[made] + 1);
            }
        }
        return depths[line];
    }

    private List<Integer> origins(int line) {
        boolean[] reached = new boolean[line + 1];
        reached[line] = true;
        List<Integer> sources = new ArrayList<>();
        for (int index = line; index >= 0; index--) {
            if (reached[index] && lines.get(index)[0] == 0) {
                sources.add(index);
            }
            for (int made : madeOf(lines.get(index))) {
                reached[made] |= reached[index];
            }
        }
        return sources;
    }
}
