/**
 * ERRORS: a call that returns an error or NONE changes nothing; and no call changes more than it is
 * described to. Each call is made on one of two benches that are alike, and then they are compared,
 * part by part: lines and length, history, snapshot, text.
 */
public final class RefusedCallsTest {
    private static final int UNKNOWN = ShareStreams.UNKNOWN;
    private static final int BAD_VALUE = ShareStreams.BAD_VALUE;
    private static final int FULL = ShareStreams.FULL;
    private static final int NOT_POSSIBLE = ShareStreams.NOT_POSSIBLE;
    private static final int NONE = ShareStreams.NONE;
    private static final int FAULT = -100000100;

    private static final Checks checks = new Checks();

    public static void main(String[] args) {
        errorsOfAdditions();
        errorsOfChanges();
        errorsOfQuestions();
        fullBench();
        nothingThere();
        nothingLeft();
        circuits();
        questions();
        textCalls();
        historyCalls();
        acts();
        checks.end();
    }

    private static void errorsOfAdditions() {
        refused("source(-1, 1)", BAD_VALUE, bench -> bench.source(-1, 1));
        refused("source(257, 1)", BAD_VALUE, bench -> bench.source(257, 1));
        refused("source(1, 0)", BAD_VALUE, bench -> bench.source(1, 0));
        refused("source(1, 256)", BAD_VALUE, bench -> bench.source(1, 256));
        refused("gate(1, 4, 0)", UNKNOWN, bench -> bench.gate(1, 4, 0));
        refused("gate(1, 0, 4)", UNKNOWN, bench -> bench.gate(1, 0, 4));
        refused("gate(1, -1, 0)", UNKNOWN, bench -> bench.gate(1, -1, 0));
        refused("gate(0, 0, 1)", BAD_VALUE, bench -> bench.gate(0, 0, 1));
        refused("gate(4, 0, 1)", BAD_VALUE, bench -> bench.gate(4, 0, 1));
        refused("choose(4, 0, 0)", UNKNOWN, bench -> bench.choose(4, 0, 0));
        refused("choose(0, 4, 0)", UNKNOWN, bench -> bench.choose(0, 4, 0));
        refused("choose(0, 0, 4)", UNKNOWN, bench -> bench.choose(0, 0, 4));
        refused("turn(4)", UNKNOWN, bench -> bench.turn(4));
        refused("turn(-1)", UNKNOWN, bench -> bench.turn(-1));
        refused("delay(4, 1)", UNKNOWN, bench -> bench.delay(4, 1));
        refused("delay(0, 0)", BAD_VALUE, bench -> bench.delay(0, 0));
        refused("delay(0, 61)", BAD_VALUE, bench -> bench.delay(0, 61));
    }

    private static void errorsOfChanges() {
        refused("reseed(4, 1, 1)", UNKNOWN, bench -> bench.reseed(4, 1, 1));
        refused("reseed(0, -1, 1)", BAD_VALUE, bench -> bench.reseed(0, -1, 1));
        refused("reseed(0, 257, 1)", BAD_VALUE, bench -> bench.reseed(0, 257, 1));
        refused("reseed(0, 1, 0)", BAD_VALUE, bench -> bench.reseed(0, 1, 0));
        refused("reseed(0, 1, 256)", BAD_VALUE, bench -> bench.reseed(0, 1, 256));
        refused("reseed(2, 1, 1)", NOT_POSSIBLE, bench -> bench.reseed(2, 1, 1));
        refused("reseed(0, 200, 3)", NONE, bench -> bench.reseed(0, 200, 3));
        refused("setLength(0)", BAD_VALUE, bench -> bench.setLength(0));
        refused("setLength(1001)", BAD_VALUE, bench -> bench.setLength(1001));
        refused("setLength(100)", NONE, bench -> bench.setLength(100));
    }

    private static void errorsOfQuestions() {
        refused("line(4, 0)", UNKNOWN, bench -> bench.line(4, 0));
        refused("line(0, -1)", BAD_VALUE, bench -> bench.line(0, -1));
        refused("line(0, 10)", BAD_VALUE, bench -> bench.line(0, 10));
        refused("line(3, 2)", NONE, bench -> bench.line(3, 2));
        refused("line(3, 3)", NONE, bench -> bench.line(3, 3));
        refused("line(0, 3)", NONE, bench -> bench.line(0, 3));
        refused("bit(4, 0)", UNKNOWN, bench -> bench.bit(4, 0));
        refused("bit(0, -1)", BAD_VALUE, bench -> bench.bit(0, -1));
        refused("bit(0, 1000)", BAD_VALUE, bench -> bench.bit(0, 1000));
        refused("overlap(4, 0)", UNKNOWN, bench -> bench.overlap(4, 0));
        refused("overlap(0, 4)", UNKNOWN, bench -> bench.overlap(0, 4));
        refused("errorAt(4, 1)", UNKNOWN, bench -> bench.errorAt(4, 1));
        refused("errorAt(0, 0)", BAD_VALUE, bench -> bench.errorAt(0, 0));
        refused("errorAt(0, 1001)", BAD_VALUE, bench -> bench.errorAt(0, 1001));
        refused("settles(4, 0)", UNKNOWN, bench -> bench.settles(4, 0));
        refused("settles(0, -1)", BAD_VALUE, bench -> bench.settles(0, -1));
        refused("settles(0, 65537)", BAD_VALUE, bench -> bench.settles(0, 65537));
        refused("settles(0, 0)", NONE, bench -> bench.settles(0, 0));
        refused("bestSeed(4, 0, 0)", UNKNOWN, bench -> bench.bestSeed(4, 0, 0));
        refused("bestSeed(0, 4, 0)", UNKNOWN, bench -> bench.bestSeed(0, 4, 0));
        refused("bestSeed(0, 0, 2)", BAD_VALUE, bench -> bench.bestSeed(0, 0, 2));
        refused("bestSeed(2, 2, 0)", NOT_POSSIBLE, bench -> bench.bestSeed(2, 2, 0));
        refused("unlike(4)", UNKNOWN, bench -> bench.unlike(4));
        refused("count(-1)", BAD_VALUE, bench -> bench.count(-1));
        refused("count(8)", BAD_VALUE, bench -> bench.count(8));
    }

    private static void fullBench() {
        refused("full: source", Benches::full, FULL, bench -> bench.source(1, 1));
        refused("full: gate", Benches::full, FULL, bench -> bench.gate(1, 15, 0));
        refused("full: choose", Benches::full, FULL, bench -> bench.choose(15, 0, 1));
        refused("full: turn", Benches::full, FULL, bench -> bench.turn(15));
        refused("full: delay", Benches::full, FULL, bench -> bench.delay(15, 1));
        refused("full: readCircuit", Benches::full, FULL, bench -> bench.readCircuit());
        refused("full: type", Benches::full, FULL, bench -> bench.type('1'));
    }

    /** No line, an empty history, no snapshot, an empty text. */
    private static void nothingThere() {
        refused("new: removeLast", ShareStreams::new, NONE, bench -> bench.removeLast());
        refused("new: undo", ShareStreams::new, NONE, bench -> bench.undo());
        refused("new: restore", ShareStreams::new, NONE, bench -> bench.restore());
        refused("new: readCircuit", ShareStreams::new, FAULT, bench -> bench.readCircuit());
        refused("new: setLength", ShareStreams::new, NONE, bench -> bench.setLength(256));
        refused("new: line", ShareStreams::new, UNKNOWN, bench -> bench.line(0, 0));
        refused("new: count", ShareStreams::new, NONE, bench -> bench.count(4));
        refused("new: clearText", ShareStreams::new, 0, bench -> bench.clearText());
    }

    /** One part has become empty, while the others are not. */
    private static void nothingLeft() {
        Benches.Start withoutLines = () -> {
            ShareStreams bench = Benches.withSources(1);
            bench.keep();
            bench.setLength(7);
            bench.removeLast();
            Benches.type(bench, "source 9 9");
            return bench;
        };
        refused("without lines: removeLast", withoutLines, NONE, bench -> bench.removeLast());
        refused("without lines: count", withoutLines, NONE, bench -> bench.count(4));
        Benches.Start withoutHistory = () -> {
            ShareStreams bench = new ShareStreams();
            bench.setLength(7);
            bench.source(1, 1);
            for (int line = 0; line < 4; line++) {
                bench.turn(line);
            }
            bench.keep();
            Benches.type(bench, "source 9 9");
            for (int left = 3; left >= 0; left--) {
                bench.undo();
            }
            return bench;
        };
        refused("without a history: undo", withoutHistory, NONE, bench -> bench.undo());
        Benches.Start withoutSnapshot = () -> {
            ShareStreams bench = Benches.withSources(5);
            bench.setLength(7);
            Benches.type(bench, "source 9 9");
            return bench;
        };
        refused("without a snapshot: restore", withoutSnapshot, NONE, bench -> bench.restore());
    }

    private static void circuits() {
        circuit("", FAULT);
        circuit("source 257 1", FAULT - 9);
        circuit("source 1 1;source 2 2;", FAULT - 22);
        circuit("source 1 1;source 2 2;not", FAULT - 25);
        circuit("source 1 1;not 6", UNKNOWN);
        circuit("not 5;source 1 1", UNKNOWN);
        circuit("not 0;not 0;not 0;not 0;not 0;not 0;not 0;not 0;not 0;not 0;not 0;not 0;not 0", FULL);
    }

    private static void circuit(String text, int due) {
        Benches.Start start = () -> {
            ShareStreams bench = Benches.withSources(4);
            bench.keep();
            bench.setLength(99);
            Benches.type(bench, text);
            return bench;
        };
        refused("readCircuit of '" + text + "'", start, due, bench -> bench.readCircuit());
    }

    /** What only tells is no act. */
    private static void questions() {
        for (int number = 0; number <= 9; number++) {
            int what = number;
            changesNothing("line " + what, bench -> bench.line(3, what));
            changesNothing("count " + what, bench -> bench.count(what));
            changesNothing("line " + what + " of a source", bench -> bench.line(0, what));
        }
        changesNothing("bit", bench -> bench.bit(3, 999));
        changesNothing("overlap", bench -> bench.overlap(3, 2));
        changesNothing("errorAt", bench -> bench.errorAt(3, 1000));
        changesNothing("settles", bench -> bench.settles(3, 65536));
        changesNothing("bestSeed: seed", bench -> bench.bestSeed(0, 3, 0));
        changesNothing("bestSeed: error", bench -> bench.bestSeed(1, 3, 1));
        changesNothing("unlike", bench -> bench.unlike(3));
    }

    private static void changesNothing(String name, Benches.Call call) {
        compare(name, Benches::busy, call, true, true, true, true);
        compare(name, Benches::full, call, true, true, true, true);
    }

    private static void textCalls() {
        compare("type", Benches::busy, bench -> bench.type('1'), true, true, true, false);
        compare("clearText", Benches::busy, bench -> bench.clearText(), true, true, true, false);
        compare("clearText of 80", Benches::full, bench -> bench.clearText(), true, true, true, false);
    }

    private static void historyCalls() {
        compare("keep", Benches::busy, bench -> bench.keep(), true, true, false, true);
        compare("keep of 16 lines", Benches::full, bench -> bench.keep(), true, true, false, true);
        compare("undo", Benches::busy, bench -> bench.undo(), false, false, true, true);
        compare("restore", Benches::busy, bench -> bench.restore(), false, false, true, true);
    }

    /** Acts leave the snapshot and the text as they are. */
    private static void acts() {
        act("source", bench -> bench.source(1, 1));
        act("gate", bench -> bench.gate(3, 0, 3));
        act("choose", bench -> bench.choose(0, 1, 3));
        act("turn", bench -> bench.turn(3));
        act("delay", bench -> bench.delay(3, 5));
        act("reseed", bench -> bench.reseed(1, 2, 3));
        act("removeLast", bench -> bench.removeLast());
        act("setLength", bench -> bench.setLength(101));
        act("readCircuit", bench -> bench.readCircuit());
    }

    private static void act(String name, Benches.Call call) {
        compare(name, Benches::busy, call, false, false, true, true);
    }

    private static void refused(String name, int due, Benches.Call call) {
        refused(name, Benches::busy, due, call);
    }

    private static void refused(String name, Benches.Start start, int due, Benches.Call call) {
        checks.due(name, call.on(start.bench()), due);
        compare(name, start, call, true, true, true, true);
        checks.due(name + ", twice", twice(start.bench(), call), due);
    }

    private static int twice(ShareStreams bench, Benches.Call call) {
        call.on(bench);
        return call.on(bench);
    }

    /** The parts that are said to stay are compared, those that are said to change are to differ. */
    private static void compare(String name, Benches.Start start, Benches.Call call, boolean stateStays,
            boolean historyStays, boolean snapshotStays, boolean textStays) {
        part(name + ": lines and length", start, call, Checks::told, stateStays);
        part(name + ": history", start, call, Benches::history, historyStays);
        part(name + ": snapshot", start, call, Benches::snapshot, snapshotStays);
        part(name + ": text", start, call, Benches::text, textStays);
    }

    private static void part(String name, Benches.Start start, Benches.Call call, Benches.Part part, boolean stays) {
        ShareStreams bench = start.bench();
        call.on(bench);
        String got = part.of(bench);
        String want = part.of(start.bench());
        if (stays) {
            checks.same(name, got, want);
        } else {
            checks.due(name + " is as before", got.equals(want) ? 1 : 0, 0);
        }
    }
}
