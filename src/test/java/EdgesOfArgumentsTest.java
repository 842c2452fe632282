/**
 * The range of every argument, as the promises 2 to 23 give it: the least and the greatest value,
 * the next one beyond on either side, and values far beyond.
 */
public final class EdgesOfArgumentsTest {
    private static final int UNKNOWN = ShareStreams.UNKNOWN;
    private static final int BAD_VALUE = ShareStreams.BAD_VALUE;
    private static final int NONE = ShareStreams.NONE;
    private static final int[] FAR = {Integer.MIN_VALUE, Integer.MIN_VALUE + 1, -65536, -256, -2, 65538, 1 << 24,
        1 << 30, Integer.MAX_VALUE - 1, Integer.MAX_VALUE};

    /** A call with one argument in question, the others being right. */
    private interface Ask {
        int of(ShareStreams bench, int value);
    }

    private static final Checks checks = new Checks();

    public static void main(String[] args) {
        rangesOfActs();
        rangesOfQuestions();
        linesOfActs();
        linesOfQuestions();
        leastAndGreatestAreTaken();
        anyCharacter();
        lineThatIsGone();
        checks.end();
    }

    private static void rangesOfActs() {
        range("source: share 0 to 256", 0, 256, (bench, share) -> bench.source(share, 9));
        range("source: seed 1 to 255", 1, 255, (bench, seed) -> bench.source(9, seed));
        range("gate: kind 1 to 3", 1, 3, (bench, kind) -> bench.gate(kind, 0, 1));
        range("delay: ticks 1 to 60", 1, 60, (bench, ticks) -> bench.delay(0, ticks));
        range("reseed: share 0 to 256", 0, 256, (bench, share) -> bench.reseed(0, share, 9));
        range("reseed: seed 1 to 255", 1, 255, (bench, seed) -> bench.reseed(0, 9, seed));
        range("setLength: 1 to 1000", 1, 1000, (bench, length) -> bench.setLength(length));
    }

    private static void rangesOfQuestions() {
        range("line: what 0 to 9", 0, 9, (bench, what) -> bench.line(0, what));
        range("bit: tick 0 to 999", 0, 999, (bench, tick) -> bench.bit(0, tick));
        range("errorAt: length 1 to 1000", 1, 1000, (bench, length) -> bench.errorAt(0, length));
        range("settles: bound 0 to 65536", 0, 65536, (bench, bound) -> bench.settles(0, bound));
        range("bestSeed: what 0 and 1", 0, 1, (bench, what) -> bench.bestSeed(0, 1, what));
        range("count: what 0 to 7", 0, 7, (bench, what) -> bench.count(what));
    }

    private static void range(String name, int least, int most, Ask ask) {
        int step = most > 1000 ? 101 : 1;
        for (int value = least; value < most; value += step) {
            taken(name, ask, value);
        }
        taken(name, ask, most);
        refused(name, ask, least - 1, BAD_VALUE);
        refused(name, ask, most + 1, BAD_VALUE);
        for (int value : FAR) {
            refused(name, ask, value, BAD_VALUE);
        }
    }

    private static void taken(String name, Ask ask, int value) {
        int answer = ask.of(Benches.withSources(2), value);
        checks.due(name + ", " + value + " answered " + answer, answer >= 0 || answer == NONE ? 1 : 0, 1);
    }

    private static void refused(String name, Ask ask, int value, int error) {
        checks.due(name + ", " + value, ask.of(Benches.withSources(2), value), error);
    }

    private static void linesOfActs() {
        lines("gate: one", (bench, line) -> bench.gate(1, line, 0));
        lines("gate: other", (bench, line) -> bench.gate(1, 0, line));
        lines("choose: one", (bench, line) -> bench.choose(line, 0, 0));
        lines("choose: other", (bench, line) -> bench.choose(0, line, 0));
        lines("choose: choice", (bench, line) -> bench.choose(0, 0, line));
        lines("turn: line", (bench, line) -> bench.turn(line));
        lines("delay: line", (bench, line) -> bench.delay(line, 1));
        lines("reseed: line", (bench, line) -> bench.reseed(line, 9, 9));
    }

    private static void linesOfQuestions() {
        for (int what = 0; what <= 9; what++) {
            int asked = what;
            lines("line: " + what, (bench, line) -> bench.line(line, asked));
        }
        lines("bit: line", (bench, line) -> bench.bit(line, 0));
        lines("overlap: one", (bench, line) -> bench.overlap(line, 0));
        lines("overlap: other", (bench, line) -> bench.overlap(0, line));
        lines("errorAt: line", (bench, line) -> bench.errorAt(line, 1));
        lines("settles: line", (bench, line) -> bench.settles(line, 65536));
        lines("bestSeed: source", (bench, line) -> bench.bestSeed(line, 0, 0));
        lines("bestSeed: line", (bench, line) -> bench.bestSeed(0, line, 0));
        lines("unlike: line", (bench, line) -> bench.unlike(line));
    }

    /** UNKNOWN: there is no such line, below 0, from the number of lines on, and with no line at all. */
    private static void lines(String name, Ask ask) {
        checks.due(name + ", without lines", ask.of(new ShareStreams(), 0), UNKNOWN);
        int[] howMany = {1, 2, 15, 16};
        for (int lines : howMany) {
            ShareStreams bench = Benches.withSources(lines);
            String of = name + " of " + lines + ": ";
            checks.due(of + "-1", ask.of(bench, -1), UNKNOWN);
            checks.due(of + lines, ask.of(bench, lines), UNKNOWN);
            checks.due(of + "16", ask.of(bench, 16), UNKNOWN);
            for (int line : FAR) {
                checks.due(of + line, ask.of(bench, line), UNKNOWN);
            }
            for (int line = 0; line < lines; line++) {
                checks.due(of + line + " is known", ask.of(Benches.withSources(lines), line) == UNKNOWN ? 1 : 0, 0);
            }
        }
    }

    /** What is taken at the ends of a range is what is told then. */
    private static void leastAndGreatestAreTaken() {
        ShareStreams bench = new ShareStreams();
        checks.due("source(0, 1)", bench.source(0, 1), 0);
        checks.due("source(256, 255)", bench.source(256, 255), 1);
        checks.due("least share", bench.line(0, 1), 0);
        checks.due("least seed", bench.line(0, 2), 1);
        checks.due("greatest share", bench.line(1, 1), 256);
        checks.due("greatest seed", bench.line(1, 2), 255);
        checks.due("gate(1)", bench.gate(1, 0, 1), 2);
        checks.due("gate(3)", bench.gate(3, 0, 1), 3);
        checks.due("least kind", bench.line(2, 0), 1);
        checks.due("greatest kind", bench.line(3, 0), 3);
        checks.due("delay(1)", bench.delay(0, 1), 4);
        checks.due("delay(60)", bench.delay(0, 60), 5);
        checks.due("least ticks", bench.line(4, 2), 1);
        checks.due("greatest ticks", bench.line(5, 2), 60);
        checks.due("reseed(256, 255)", bench.reseed(0, 256, 255), 0);
        checks.due("reseed: greatest share", bench.line(0, 1), 256);
        checks.due("reseed: greatest seed", bench.line(0, 2), 255);
        checks.due("reseed(0, 1)", bench.reseed(0, 0, 1), 256);
        checks.due("reseed: least share", bench.line(0, 1), 0);
        checks.due("reseed: least seed", bench.line(0, 2), 1);
        checks.due("setLength(1)", bench.setLength(1), 256);
        checks.due("least length", bench.count(1), 1);
        checks.due("setLength(1000)", bench.setLength(1000), 1);
        checks.due("greatest length", bench.count(1), 1000);
    }

    /** type takes any character, the least and the greatest one too. */
    private static void anyCharacter() {
        for (int from = 0; from <= 65535; from += 80) {
            ShareStreams bench = new ShareStreams();
            for (int index = 0; index < 80 && from + index <= 65535; index++) {
                checks.due("type " + (from + index), bench.type((char) (from + index)), index + 1);
            }
        }
    }

    /** A line that was removed, undone, or not kept is none any more. */
    private static void lineThatIsGone() {
        ShareStreams bench = Benches.withSources(2);
        bench.keep();
        checks.due("gone: source", bench.source(7, 7), 2);
        bench.removeLast();
        checks.due("gone: removed", bench.line(2, 1), UNKNOWN);
        checks.due("gone: removed, turned", bench.turn(2), UNKNOWN);
        bench.undo();
        checks.due("gone: there again", bench.line(2, 1), 7);
        bench.undo();
        checks.due("gone: undone", bench.unlike(2), UNKNOWN);
        checks.due("gone: source again", bench.source(8, 8), 2);
        bench.restore();
        checks.due("gone: not in the snapshot", bench.bit(2, 0), UNKNOWN);
        checks.due("gone: reseed", bench.reseed(2, 1, 1), UNKNOWN);
    }
}
