/** Promises 1 to 9: a new object, the lines that are added, changed and removed, and the length. */
public final class LinesTest {
    private static final int UNKNOWN = ShareStreams.UNKNOWN;
    private static final int BAD_VALUE = ShareStreams.BAD_VALUE;
    private static final int FULL = ShareStreams.FULL;
    private static final int NONE = ShareStreams.NONE;
    private static final int[] FAR = {Integer.MIN_VALUE, -1000, -1, Integer.MAX_VALUE};

    private static final Checks checks = new Checks();

    public static void main(String[] args) {
        newObject();
        source();
        gate();
        choose();
        turn();
        delay();
        fullBench();
        reseed();
        removeLast();
        setLength();
        checks.end();
    }

    private static void newObject() {
        ShareStreams bench = new ShareStreams();
        checks.due("new: lines", bench.count(0), 0);
        checks.due("new: length", bench.count(1), 256);
        checks.due("new: sources", bench.count(2), 0);
        checks.due("new: sum of errors", bench.count(3), 0);
        checks.due("new: line with the greatest error", bench.count(4), NONE);
        checks.due("new: depth", bench.count(5), 0);
        checks.due("new: states", bench.count(6), 0);
        checks.due("new: text", bench.count(7), 0);
        checks.due("new: restore", bench.restore(), NONE);
        checks.due("new: undo", bench.undo(), NONE);
        checks.due("new: no line 0", bench.line(0, 0), UNKNOWN);
        ShareStreams other = new ShareStreams();
        bench.source(1, 1);
        checks.due("new: two objects share nothing", other.count(0), 0);
    }

    private static void source() {
        ShareStreams bench = new ShareStreams();
        checks.due("source: least", bench.source(0, 1), 0);
        checks.due("source: most", bench.source(256, 255), 1);
        checks.due("source: an act", bench.count(6), 2);
        checks.due("source: kind", bench.line(1, 0), 0);
        checks.due("source: share", bench.line(1, 1), 256);
        checks.due("source: seed", bench.line(1, 2), 255);
        checks.due("source: no third number", bench.line(1, 3), NONE);
        checks.due("source: share -1", bench.source(-1, 1), BAD_VALUE);
        checks.due("source: share 257", bench.source(257, 1), BAD_VALUE);
        checks.due("source: seed 0", bench.source(1, 0), BAD_VALUE);
        checks.due("source: seed 256", bench.source(1, 256), BAD_VALUE);
        for (int far : FAR) {
            checks.due("source: share " + far, bench.source(far, 1), BAD_VALUE);
            checks.due("source: seed " + far, bench.source(1, far), BAD_VALUE);
        }
        checks.due("source: an error adds nothing", bench.count(0), 2);
        checks.due("source: an error records nothing", bench.count(6), 2);
    }

    /**
     * From the seed 1 the register goes 1 2 4 8 16 32 64 128 29 58 116 232,
     * from the seed 8 it goes 8 16 32 64 128 29 58 116 232 205 135 19.
     */
    private static void gate() {
        ShareStreams bench = new ShareStreams();
        checks.due("gate: no line", bench.gate(1, 0, 0), UNKNOWN);
        bench.source(128, 1);
        bench.source(30, 8);
        int[] one = {1, 1, 1, 1, 1, 1, 1, 1, 1, 1, 1, 0};
        int[] other = {1, 1, 0, 0, 0, 1, 0, 0, 0, 0, 0, 1};
        for (int tick = 0; tick < 12; tick++) {
            checks.due("gate: one, tick " + tick, bench.bit(0, tick), one[tick]);
            checks.due("gate: other, tick " + tick, bench.bit(1, tick), other[tick]);
        }
        checks.due("gate: product", bench.gate(1, 0, 1), 2);
        checks.due("gate: sum", bench.gate(2, 0, 1), 3);
        checks.due("gate: difference", bench.gate(3, 0, 1), 4);
        for (int tick = 0; tick < 12; tick++) {
            checks.due("gate: product, tick " + tick, bench.bit(2, tick), one[tick] * other[tick]);
            checks.due("gate: sum, tick " + tick, bench.bit(3, tick), Math.max(one[tick], other[tick]));
            checks.due("gate: difference, tick " + tick, bench.bit(4, tick), one[tick] == other[tick] ? 0 : 1);
        }
        checks.due("gate: kind", bench.line(3, 0), 2);
        checks.due("gate: one", bench.line(3, 1), 0);
        checks.due("gate: other", bench.line(3, 2), 1);
        checks.due("gate: no third number", bench.line(3, 3), NONE);
        checks.due("gate: kind 0", bench.gate(0, 0, 1), BAD_VALUE);
        checks.due("gate: kind 4", bench.gate(4, 0, 1), BAD_VALUE);
        checks.due("gate: line 5 of itself", bench.gate(1, 5, 0), UNKNOWN);
        checks.due("gate: other 5 of itself", bench.gate(1, 0, 5), UNKNOWN);
        checks.due("gate: UNKNOWN ahead of BAD_VALUE", bench.gate(4, 0, 5), UNKNOWN);
        for (int far : FAR) {
            checks.due("gate: kind " + far, bench.gate(far, 0, 1), BAD_VALUE);
            checks.due("gate: one " + far, bench.gate(1, far, 1), UNKNOWN);
            checks.due("gate: other " + far, bench.gate(1, 1, far), UNKNOWN);
        }
        checks.due("gate: lines", bench.count(0), 5);
        checks.due("gate: an act", bench.undo(), 3);
        checks.due("gate: undone", bench.count(0), 4);
    }

    private static void choose() {
        ShareStreams bench = new ShareStreams();
        bench.source(128, 1);
        bench.source(200, 9);
        bench.source(64, 100);
        checks.due("choose", bench.choose(0, 1, 2), 3);
        checks.due("choose: an act", bench.count(6), 4);
        for (int tick = 0; tick < 100; tick++) {
            int due = bench.bit(2, tick) == 1 ? bench.bit(0, tick) : bench.bit(1, tick);
            checks.due("choose: tick " + tick, bench.bit(3, tick), due);
        }
        checks.due("choose: kind", bench.line(3, 0), 4);
        checks.due("choose: one", bench.line(3, 1), 0);
        checks.due("choose: other", bench.line(3, 2), 1);
        checks.due("choose: choice", bench.line(3, 3), 2);
        checks.due("choose: one 4", bench.choose(4, 0, 0), UNKNOWN);
        checks.due("choose: other 4", bench.choose(0, 4, 0), UNKNOWN);
        checks.due("choose: choice 4", bench.choose(0, 0, 4), UNKNOWN);
        for (int far : FAR) {
            checks.due("choose: one " + far, bench.choose(far, 0, 0), UNKNOWN);
            checks.due("choose: other " + far, bench.choose(0, far, 0), UNKNOWN);
            checks.due("choose: choice " + far, bench.choose(0, 0, far), UNKNOWN);
        }
        checks.due("choose: lines", bench.count(0), 4);
        checks.due("choose: all alike", bench.choose(3, 3, 3), 4);
    }

    private static void turn() {
        ShareStreams bench = new ShareStreams();
        checks.due("turn: no line", bench.turn(0), UNKNOWN);
        bench.source(128, 1);
        checks.due("turn", bench.turn(0), 1);
        checks.due("turn: an act", bench.count(6), 2);
        checks.due("turn: kind", bench.line(1, 0), 5);
        checks.due("turn: of", bench.line(1, 1), 0);
        checks.due("turn: no second number", bench.line(1, 2), NONE);
        checks.due("turn: no third number", bench.line(1, 3), NONE);
        for (int tick = 0; tick < 100; tick++) {
            checks.due("turn: tick " + tick, bench.bit(1, tick), 1 - bench.bit(0, tick));
        }
        checks.due("turn: itself", bench.turn(2), UNKNOWN);
        for (int far : FAR) {
            checks.due("turn: " + far, bench.turn(far), UNKNOWN);
        }
        checks.due("turn: turned twice", bench.turn(1), 2);
        checks.due("turn: turned twice, the count", bench.line(2, 4), bench.line(0, 4));
    }

    private static void delay() {
        for (int ticks = 1; ticks <= 60; ticks++) {
            ShareStreams bench = new ShareStreams();
            bench.source(100, 3);
            checks.due("delay: " + ticks, bench.delay(0, ticks), 1);
            checks.due("delay: an act", bench.count(6), 2);
            for (int tick = 0; tick < 200; tick++) {
                int due = tick < ticks ? 0 : bench.bit(0, tick - ticks);
                checks.due("delay: by " + ticks + ", tick " + tick, bench.bit(1, tick), due);
            }
            checks.due("delay: kind", bench.line(1, 0), 6);
            checks.due("delay: of", bench.line(1, 1), 0);
            checks.due("delay: ticks", bench.line(1, 2), ticks);
            checks.due("delay: no third number", bench.line(1, 3), NONE);
        }
        ShareStreams bench = new ShareStreams();
        checks.due("delay: no line", bench.delay(0, 1), UNKNOWN);
        bench.source(256, 3);
        checks.due("delay: ticks 0", bench.delay(0, 0), BAD_VALUE);
        checks.due("delay: ticks 61", bench.delay(0, 61), BAD_VALUE);
        checks.due("delay: itself", bench.delay(1, 1), UNKNOWN);
        checks.due("delay: UNKNOWN ahead of BAD_VALUE", bench.delay(1, 0), UNKNOWN);
        for (int far : FAR) {
            checks.due("delay: ticks " + far, bench.delay(0, far), BAD_VALUE);
            checks.due("delay: line " + far, bench.delay(far, 1), UNKNOWN);
        }
        checks.due("delay: lines", bench.count(0), 1);
        delayOfATurnedLine();
        fifteenDelays();
    }

    private static void delayOfATurnedLine() {
        ShareStreams bench = new ShareStreams();
        bench.source(0, 1);
        bench.turn(0);
        bench.delay(1, 5);
        for (int tick = 0; tick < 10; tick++) {
            checks.due("delay: of all ones, tick " + tick, bench.bit(2, tick), tick < 5 ? 0 : 1);
        }
    }

    private static void fifteenDelays() {
        ShareStreams bench = new ShareStreams();
        bench.source(256, 3);
        for (int line = 0; line < 15; line++) {
            bench.delay(line, 60);
        }
        checks.due("delay: fifteen, tick 899", bench.bit(15, 899), 0);
        checks.due("delay: fifteen, tick 900", bench.bit(15, 900), 1);
        bench.setLength(1000);
        checks.due("delay: fifteen, count", bench.line(15, 4), 100);
    }

    private static void fullBench() {
        ShareStreams bench = new ShareStreams();
        for (int line = 0; line < 16; line++) {
            checks.due("full: source " + line, bench.source(line * 16, 16 - line), line);
        }
        checks.due("full: source", bench.source(1, 1), FULL);
        checks.due("full: gate", bench.gate(1, 15, 15), FULL);
        checks.due("full: choose", bench.choose(15, 15, 15), FULL);
        checks.due("full: turn", bench.turn(15), FULL);
        checks.due("full: delay", bench.delay(15, 1), FULL);
        checks.due("full: source, BAD_VALUE first", bench.source(257, 1), BAD_VALUE);
        checks.due("full: gate, UNKNOWN first", bench.gate(1, 16, 15), UNKNOWN);
        checks.due("full: gate, BAD_VALUE first", bench.gate(4, 15, 15), BAD_VALUE);
        checks.due("full: choose, UNKNOWN first", bench.choose(15, 15, 16), UNKNOWN);
        checks.due("full: turn, UNKNOWN first", bench.turn(16), UNKNOWN);
        checks.due("full: delay, UNKNOWN first", bench.delay(16, 1), UNKNOWN);
        checks.due("full: delay, BAD_VALUE first", bench.delay(15, 0), BAD_VALUE);
        checks.due("full: lines", bench.count(0), 16);
        checks.due("full: room again", bench.removeLast(), 15);
        checks.due("full: the last one again", bench.turn(14), 15);
    }

    private static void reseed() {
        ShareStreams bench = new ShareStreams();
        checks.due("reseed: no line", bench.reseed(0, 1, 1), UNKNOWN);
        bench.source(100, 3);
        bench.turn(0);
        checks.due("reseed: both", bench.reseed(0, 50, 7), 100);
        checks.due("reseed: an act", bench.count(6), 3);
        checks.due("reseed: share told", bench.line(0, 1), 50);
        checks.due("reseed: seed told", bench.line(0, 2), 7);
        checks.due("reseed: a made line goes with it", bench.line(1, 6), 65536 - 50 * 256);
        checks.due("reseed: the share alone", bench.reseed(0, 51, 7), 50);
        checks.due("reseed: the seed alone", bench.reseed(0, 51, 8), 51);
        checks.due("reseed: alike", bench.reseed(0, 51, 8), NONE);
        checks.due("reseed: edges", bench.reseed(0, 0, 1), 51);
        checks.due("reseed: other edges", bench.reseed(0, 256, 255), 0);
        checks.due("reseed: share 257", bench.reseed(0, 257, 1), BAD_VALUE);
        checks.due("reseed: share -1", bench.reseed(0, -1, 1), BAD_VALUE);
        checks.due("reseed: seed 0", bench.reseed(0, 1, 0), BAD_VALUE);
        checks.due("reseed: seed 256", bench.reseed(0, 1, 256), BAD_VALUE);
        checks.due("reseed: a made line", bench.reseed(1, 1, 1), ShareStreams.NOT_POSSIBLE);
        checks.due("reseed: BAD_VALUE ahead of NOT_POSSIBLE", bench.reseed(1, 257, 1), BAD_VALUE);
        checks.due("reseed: UNKNOWN ahead of BAD_VALUE", bench.reseed(2, 257, 1), UNKNOWN);
        checks.due("reseed: -1", bench.reseed(-1, 1, 1), UNKNOWN);
        checks.due("reseed: share still", bench.line(0, 1), 256);
        bench.undo();
        checks.due("reseed: share undone", bench.line(0, 1), 0);
        checks.due("reseed: seed undone", bench.line(0, 2), 1);
        bench.undo();
        bench.reseed(0, 51, 8);
        checks.due("reseed: NONE records nothing", bench.count(6), 2);
    }

    private static void removeLast() {
        ShareStreams bench = new ShareStreams();
        checks.due("removeLast: none", bench.removeLast(), NONE);
        checks.due("removeLast: NONE records nothing", bench.count(6), 0);
        bench.source(100, 3);
        bench.source(200, 4);
        checks.due("removeLast: of two", bench.removeLast(), 1);
        checks.due("removeLast: an act", bench.count(6), 3);
        checks.due("removeLast: it is gone", bench.line(1, 0), UNKNOWN);
        checks.due("removeLast: the first one stays", bench.line(0, 1), 100);
        checks.due("removeLast: of one", bench.removeLast(), 0);
        checks.due("removeLast: none left", bench.removeLast(), NONE);
        bench.undo();
        bench.undo();
        checks.due("removeLast: undone", bench.line(1, 1), 200);
    }

    private static void setLength() {
        ShareStreams bench = new ShareStreams();
        checks.due("setLength: as it is", bench.setLength(256), NONE);
        checks.due("setLength: NONE records nothing", bench.count(6), 0);
        checks.due("setLength: 1", bench.setLength(1), 256);
        checks.due("setLength: 1000", bench.setLength(1000), 1);
        checks.due("setLength: told", bench.count(1), 1000);
        checks.due("setLength: an act", bench.count(6), 2);
        checks.due("setLength: 0", bench.setLength(0), BAD_VALUE);
        checks.due("setLength: 1001", bench.setLength(1001), BAD_VALUE);
        for (int far : FAR) {
            checks.due("setLength: " + far, bench.setLength(far), BAD_VALUE);
        }
        checks.due("setLength: still", bench.count(1), 1000);
        bench.undo();
        checks.due("setLength: undone", bench.count(1), 1);
    }
}
