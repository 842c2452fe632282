/** ERRORS: where several errors can apply, the order of the @return line is the order of the checks. */
public final class OrderOfErrorsTest {
    private static final int UNKNOWN = ShareStreams.UNKNOWN;
    private static final int BAD_VALUE = ShareStreams.BAD_VALUE;
    private static final int FULL = ShareStreams.FULL;
    private static final int NOT_POSSIBLE = ShareStreams.NOT_POSSIBLE;
    private static final int NONE = ShareStreams.NONE;
    private static final int FAULT = -100000100;

    private static final Checks checks = new Checks();

    public static void main(String[] args) {
        constants();
        additionsToAFullBench();
        additionsWithRoom();
        additionsToNothing();
        reseed();
        setLength();
        readCircuit();
        line();
        otherQuestions();
        bestSeed();
        checks.end();
    }

    private static void constants() {
        checks.due("UNKNOWN", UNKNOWN, -100000001);
        checks.due("BAD_VALUE", BAD_VALUE, -100000002);
        checks.due("FULL", FULL, -100000003);
        checks.due("NOT_POSSIBLE", NOT_POSSIBLE, -100000004);
        checks.due("NONE", NONE, -100000005);
    }

    /** All sixteen lines are there, so that FULL can apply to each call. */
    private static void additionsToAFullBench() {
        ShareStreams bench = Benches.withSources(16);
        checks.due("full: source", bench.source(0, 1), FULL);
        checks.due("full: source, BAD_VALUE of the share first", bench.source(257, 1), BAD_VALUE);
        checks.due("full: source, BAD_VALUE of the seed first", bench.source(0, 0), BAD_VALUE);
        checks.due("full: gate", bench.gate(3, 15, 0), FULL);
        checks.due("full: gate, BAD_VALUE ahead of FULL", bench.gate(0, 15, 0), BAD_VALUE);
        checks.due("full: gate, UNKNOWN of one ahead of FULL", bench.gate(1, 16, 0), UNKNOWN);
        checks.due("full: gate, UNKNOWN of other ahead of FULL", bench.gate(1, 0, 16), UNKNOWN);
        checks.due("full: gate, UNKNOWN ahead of both", bench.gate(4, 0, -1), UNKNOWN);
        checks.due("full: choose", bench.choose(15, 0, 1), FULL);
        checks.due("full: choose, UNKNOWN of one first", bench.choose(16, 0, 0), UNKNOWN);
        checks.due("full: choose, UNKNOWN of other first", bench.choose(0, 16, 0), UNKNOWN);
        checks.due("full: choose, UNKNOWN of choice first", bench.choose(0, 0, 16), UNKNOWN);
        checks.due("full: turn", bench.turn(15), FULL);
        checks.due("full: turn, UNKNOWN first", bench.turn(16), UNKNOWN);
        checks.due("full: delay", bench.delay(15, 60), FULL);
        checks.due("full: delay, BAD_VALUE ahead of FULL", bench.delay(15, 61), BAD_VALUE);
        checks.due("full: delay, UNKNOWN ahead of FULL", bench.delay(16, 60), UNKNOWN);
        checks.due("full: delay, UNKNOWN ahead of both", bench.delay(-1, 0), UNKNOWN);
    }

    private static void additionsWithRoom() {
        ShareStreams bench = Benches.withSources(1);
        checks.due("room: gate, UNKNOWN of one ahead of BAD_VALUE", bench.gate(0, 1, 0), UNKNOWN);
        checks.due("room: gate, UNKNOWN of other ahead of BAD_VALUE", bench.gate(4, 0, 1), UNKNOWN);
        checks.due("room: delay, UNKNOWN ahead of BAD_VALUE, 0", bench.delay(1, 0), UNKNOWN);
        checks.due("room: delay, UNKNOWN ahead of BAD_VALUE, 61", bench.delay(1, 61), UNKNOWN);
    }

    private static void additionsToNothing() {
        ShareStreams bench = new ShareStreams();
        checks.due("nothing: gate", bench.gate(9, 0, 0), UNKNOWN);
        checks.due("nothing: choose", bench.choose(0, 0, 0), UNKNOWN);
        checks.due("nothing: turn", bench.turn(0), UNKNOWN);
        checks.due("nothing: delay", bench.delay(0, 0), UNKNOWN);
        checks.due("nothing: reseed", bench.reseed(0, -1, 0), UNKNOWN);
        checks.due("nothing: line", bench.line(0, 10), UNKNOWN);
        checks.due("nothing: bit", bench.bit(0, 1000), UNKNOWN);
        checks.due("nothing: overlap", bench.overlap(0, 0), UNKNOWN);
        checks.due("nothing: errorAt", bench.errorAt(0, 0), UNKNOWN);
        checks.due("nothing: settles", bench.settles(0, -1), UNKNOWN);
        checks.due("nothing: bestSeed", bench.bestSeed(0, 0, 2), UNKNOWN);
        checks.due("nothing: unlike", bench.unlike(0), UNKNOWN);
        checks.due("nothing: count of an unknown kind, not NONE", bench.count(8), BAD_VALUE);
    }

    private static void reseed() {
        ShareStreams bench = new ShareStreams();
        bench.source(5, 6);
        bench.source(7, 8);
        // Its numbers are 0 and 1, which a source could have for its share and its seed.
        bench.gate(1, 0, 1);
        checks.due("reseed: UNKNOWN ahead of BAD_VALUE of the share", bench.reseed(3, 257, 1), UNKNOWN);
        checks.due("reseed: UNKNOWN ahead of BAD_VALUE of the seed", bench.reseed(-1, 0, 0), UNKNOWN);
        checks.due("reseed: BAD_VALUE of the share ahead of NOT_POSSIBLE", bench.reseed(2, -1, 1), BAD_VALUE);
        checks.due("reseed: BAD_VALUE of the seed ahead of NOT_POSSIBLE", bench.reseed(2, 0, 256), BAD_VALUE);
        checks.due("reseed: NOT_POSSIBLE", bench.reseed(2, 9, 9), NOT_POSSIBLE);
        checks.due("reseed: NOT_POSSIBLE ahead of NONE", bench.reseed(2, 0, 1), NOT_POSSIBLE);
        checks.due("reseed: BAD_VALUE of the seed, the share being so already", bench.reseed(0, 5, 0), BAD_VALUE);
        checks.due("reseed: BAD_VALUE of the share, the seed being so already", bench.reseed(0, 257, 6), BAD_VALUE);
        checks.due("reseed: NONE", bench.reseed(0, 5, 6), NONE);
    }

    private static void setLength() {
        ShareStreams bench = new ShareStreams();
        bench.setLength(1);
        checks.due("setLength: below the least, at the least", bench.setLength(0), BAD_VALUE);
        checks.due("setLength: NONE at the least", bench.setLength(1), NONE);
        bench.setLength(1000);
        checks.due("setLength: above the greatest, at the greatest", bench.setLength(1001), BAD_VALUE);
        checks.due("setLength: NONE at the greatest", bench.setLength(1000), NONE);
    }

    private static void readCircuit() {
        ShareStreams bench = Benches.withSources(15);
        checks.due("read: a fault ahead of UNKNOWN", checks.read(bench, "not 15;"), FAULT - 7);
        checks.due("read: a fault ahead of FULL", checks.read(bench, "not 0;not 0;"), FAULT - 12);
        checks.due("read: a fault ahead of both", checks.read(bench, "not 15;not 0;no"), FAULT - 15);
        checks.due("read: UNKNOWN of the first line ahead of FULL", checks.read(bench, "not 15;not 0"), UNKNOWN);
        checks.due("read: FULL", checks.read(bench, "not 0;not 0"), FULL);
        checks.due("read: the last line is ahead of the one past the room", checks.read(bench, "not 0;not 15"), FULL);
        checks.due("read: UNKNOWN", checks.read(bench, "not 15"), UNKNOWN);
        checks.due("read: neither", checks.read(bench, "not 14"), 16);
        checks.due("read: FULL, all lines being ahead", checks.read(bench, "not 15"), FULL);
        checks.due("read: a fault of a full bench", checks.read(bench, ""), FAULT);
    }

    private static void line() {
        ShareStreams bench = Benches.withSources(1);
        bench.turn(0);
        for (int what = -1; what <= 10; what++) {
            checks.due("line: UNKNOWN ahead of all, " + what, bench.line(2, what), UNKNOWN);
        }
        checks.due("line: BAD_VALUE, not NONE, 10", bench.line(1, 10), BAD_VALUE);
        checks.due("line: BAD_VALUE, not NONE, -1", bench.line(1, -1), BAD_VALUE);
        checks.due("line: NONE of a turned line", bench.line(1, 2), NONE);
        checks.due("line: NONE of a source", bench.line(0, 3), NONE);
    }

    private static void otherQuestions() {
        ShareStreams bench = new ShareStreams();
        // The share over 1 to 1000 ticks is far from the exact share, so that NONE can apply.
        bench.source(128, 1);
        bench.gate(3, 0, 0);
        checks.due("bit: UNKNOWN ahead of BAD_VALUE, -1", bench.bit(2, -1), UNKNOWN);
        checks.due("bit: UNKNOWN ahead of BAD_VALUE, 1000", bench.bit(-1, 1000), UNKNOWN);
        checks.due("errorAt: UNKNOWN ahead of BAD_VALUE, 0", bench.errorAt(2, 0), UNKNOWN);
        checks.due("errorAt: UNKNOWN ahead of BAD_VALUE, 1001", bench.errorAt(-1, 1001), UNKNOWN);
        checks.due("settles: UNKNOWN ahead of BAD_VALUE, -1", bench.settles(2, -1), UNKNOWN);
        checks.due("settles: UNKNOWN ahead of BAD_VALUE, 65537", bench.settles(-1, 65537), UNKNOWN);
        checks.due("settles: UNKNOWN ahead of NONE", bench.settles(2, 0), UNKNOWN);
        checks.due("settles: BAD_VALUE ahead of NONE", bench.settles(1, -1), BAD_VALUE);
        checks.due("settles: NONE", bench.settles(1, 0), NONE);
    }

    private static void bestSeed() {
        ShareStreams bench = Benches.withSources(2);
        bench.gate(1, 0, 1);
        checks.due("bestSeed: UNKNOWN of source ahead of BAD_VALUE", bench.bestSeed(3, 0, 2), UNKNOWN);
        checks.due("bestSeed: UNKNOWN of line ahead of BAD_VALUE", bench.bestSeed(0, 3, -1), UNKNOWN);
        checks.due("bestSeed: UNKNOWN of line ahead of NOT_POSSIBLE", bench.bestSeed(2, 3, 0), UNKNOWN);
        checks.due("bestSeed: UNKNOWN of line ahead of both", bench.bestSeed(2, -1, 2), UNKNOWN);
        checks.due("bestSeed: BAD_VALUE ahead of NOT_POSSIBLE, 2", bench.bestSeed(2, 0, 2), BAD_VALUE);
        checks.due("bestSeed: BAD_VALUE ahead of NOT_POSSIBLE, -1", bench.bestSeed(2, 0, -1), BAD_VALUE);
        checks.due("bestSeed: NOT_POSSIBLE", bench.bestSeed(2, 2, 0), NOT_POSSIBLE);
        checks.due("bestSeed: NOT_POSSIBLE of the error too", bench.bestSeed(2, 0, 1), NOT_POSSIBLE);
    }
}
