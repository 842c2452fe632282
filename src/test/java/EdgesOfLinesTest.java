/** LINES, and what the promises 2 to 9 and 17 say of them: how many, their bits at the first and the last ticks. */
public final class EdgesOfLinesTest {
    private static final int UNKNOWN = ShareStreams.UNKNOWN;
    private static final int BAD_VALUE = ShareStreams.BAD_VALUE;
    private static final int FULL = ShareStreams.FULL;
    private static final int NONE = ShareStreams.NONE;

    private static final Checks checks = new Checks();

    public static void main(String[] args) {
        noLineAtFirst();
        sixteenLines();
        numberedInTheirOrder();
        removedToNothing();
        seedAtTheFirstTick();
        leastAndGreatestShares();
        everyNextRegister();
        onceInEachRound();
        goingOnPast255();
        gatesBitByBit();
        turnedAtTheEnds();
        ofLinesAheadAlone();
        firstTicksOfADelay();
        delaysOfDelays();
        reseedAtTheEdges();
        ticksWithoutAnEnd();
        checks.end();
    }

    /** Promise 1: "Creates a bench without lines." */
    private static void noLineAtFirst() {
        ShareStreams bench = new ShareStreams();
        int[] due = {0, 256, 0, 0, NONE, 0, 0, 0, BAD_VALUE};
        for (int what = 0; what < due.length; what++) {
            checks.due("at first: count " + what, bench.count(what), due[what]);
        }
        checks.due("at first: removeLast", bench.removeLast(), NONE);
        checks.due("at first: line 0", bench.line(0, 0), UNKNOWN);
    }

    /** "There are at most 16 lines": each call that adds one makes the 16th, and then none more. */
    private static void sixteenLines() {
        for (int kind = 0; kind <= 6; kind++) {
            ShareStreams bench = new ShareStreams();
            checks.due("sixteen: source", bench.source(9, 9), 0);
            for (int line = 1; line < 16; line++) {
                checks.due("sixteen: kind " + kind, add(bench, kind), line);
                checks.due("sixteen: lines", bench.count(0), line + 1);
            }
            for (int other = 0; other <= 6; other++) {
                checks.due("sixteen: full, kind " + other, add(bench, other), FULL);
            }
            checks.due("sixteen: lines still", bench.count(0), 16);
            checks.due("sixteen: the last one", bench.line(15, 0), kind);
            checks.due("sixteen: one less", bench.removeLast(), 15);
            checks.due("sixteen: room again", add(bench, kind), 15);
        }
    }

    private static int add(ShareStreams bench, int kind) {
        switch (kind) {
            case 0:
                return bench.source(0, 1);
            case 4:
                return bench.choose(0, 0, 0);
            case 5:
                return bench.turn(0);
            case 6:
                return bench.delay(0, 1);
            default:
                return bench.gate(kind, 0, 0);
        }
    }

    /** "numbered from 0 in their order" */
    private static void numberedInTheirOrder() {
        ShareStreams bench = new ShareStreams();
        for (int line = 0; line < 16; line++) {
            checks.due("order: source", bench.source(line, line + 1), line);
        }
        for (int line = 0; line < 16; line++) {
            checks.due("order: share", bench.line(line, 1), line);
            checks.due("order: seed", bench.line(line, 2), line + 1);
        }
        bench.removeLast();
        bench.removeLast();
        checks.due("order: the number of one that was removed", bench.source(99, 99), 14);
        checks.due("order: its share", bench.line(14, 1), 99);
        checks.due("order: the one ahead of it", bench.line(13, 1), 13);
    }

    /** Promise 8: "Returns how many lines are left; NONE if there is none." */
    private static void removedToNothing() {
        ShareStreams bench = Benches.withSources(16);
        for (int left = 15; left >= 0; left--) {
            checks.due("removed: left", bench.removeLast(), left);
            checks.due("removed: the last one is gone", bench.line(left, 0), UNKNOWN);
            checks.due("removed: told", bench.count(0), left);
        }
        checks.due("removed: none", bench.removeLast(), NONE);
        checks.due("removed: none, again", bench.removeLast(), NONE);
        checks.due("removed: the first number again", bench.source(1, 1), 0);
        bench.undo();
        checks.due("removed: undone", bench.count(0), 0);
        bench.undo();
        checks.due("removed: the last act that removed is undone", bench.count(0), 1);
    }

    /** "its register is the seed at the tick 0; its bit is 1 if its register is at most p, otherwise 0" */
    private static void seedAtTheFirstTick() {
        for (int seed = 1; seed <= 255; seed++) {
            ShareStreams bench = new ShareStreams();
            bench.source(seed - 1, seed);
            bench.source(seed, seed);
            bench.source(seed + 1, seed);
            checks.due("tick 0: seed " + seed + " above the share", bench.bit(0, 0), 0);
            checks.due("tick 0: seed " + seed + " at the share", bench.bit(1, 0), 1);
            checks.due("tick 0: seed " + seed + " below the share", bench.bit(2, 0), 1);
        }
    }

    /** "a share of p / 256 (p 0 to 256)": no 1 at all, one in a round, all but one, all, all. */
    private static void leastAndGreatestShares() {
        ShareStreams bench = new ShareStreams();
        bench.setLength(255);
        int[] shares = {0, 1, 254, 255, 256};
        for (int share : shares) {
            for (int seed = 1; seed <= 255; seed += 127) {
                int line = bench.source(share, seed);
                checks.due("share " + share + ", seed " + seed, bench.line(line, 4), Math.min(share, 255));
            }
        }
        bench.setLength(1000);
        checks.due("share 0: count over 1000", bench.line(0, 4), 0);
        checks.due("share 255: count over 1000", bench.line(9, 4), 1000);
        checks.due("share 256: count over 1000", bench.line(12, 4), 1000);
    }

    /** "it is doubled; if it is 256 or more then, 256 is taken away, and the bits of 29 are turned about" */
    private static void everyNextRegister() {
        int[] registers = {1, 2, 64, 127, 128, 129, 142, 143, 192, 254, 255};
        int[] nextOnes = {2, 4, 128, 254, 29, 31, 1, 3, 157, 225, 227};
        for (int index = 0; index < registers.length; index++) {
            checkNext(registers[index], nextOnes[index]);
        }
        for (int register = 1; register <= 127; register++) {
            checkNext(register, register * 2);
        }
        for (int register = 128; register <= 255; register++) {
            checkNext(register, (register * 2 - 256) ^ 29);
        }
    }

    private static void checkNext(int register, int next) {
        ShareStreams bench = new ShareStreams();
        bench.source(next - 1, register);
        bench.source(next, register);
        checks.due("register " + register + " goes on above " + (next - 1), bench.bit(0, 1), 0);
        checks.due("register " + register + " goes on to " + next, bench.bit(1, 1), 1);
    }

    /** "So each of the 255 numbers comes just once in 255 ticks." The share 1 shows when the 1 comes. */
    private static void onceInEachRound() {
        boolean[] taken = new boolean[255];
        int register = 1;
        for (int ticks = 0; ticks < 255; ticks++) {
            int first = ticks == 0 ? 0 : 255 - ticks;
            onceAt(register, first);
            checks.due("once: no seed has the 1 at the same tick", taken[first] ? 1 : 0, 0);
            taken[first] = true;
            register = register < 128 ? register * 2 : (register * 2 - 256) ^ 29;
        }
        checks.due("once: back at the first number", register, 1);
    }

    private static void onceAt(int seed, int first) {
        ShareStreams bench = new ShareStreams();
        bench.source(1, seed);
        bench.setLength(1000);
        int due = 0;
        for (int tick = first; tick < 1000; tick += 255) {
            checks.due("once: seed " + seed + ", tick " + tick, bench.bit(0, tick), 1);
            if (tick > 0) {
                checks.due("once: seed " + seed + ", ahead of tick " + tick, bench.bit(0, tick - 1), 0);
            }
            due++;
        }
        checks.due("once: seed " + seed + ", count over 1000", bench.line(0, 4), due);
        bench.setLength(255);
        checks.due("once: seed " + seed + ", count over 255", bench.line(0, 4), 1);
    }

    /** The tick 254 is the last one of the first round; 255, 510 and 765 are as the tick 0. */
    private static void goingOnPast255() {
        int[] seeds = {1, 29, 128, 142, 200, 255};
        for (int seed : seeds) {
            for (int share = 1; share <= 255; share += 42) {
                round(share, seed);
            }
        }
    }

    private static void round(int share, int seed) {
        ShareStreams bench = new ShareStreams();
        bench.source(share, seed);
        int register = seed;
        int[] ones = new int[255];
        for (int tick = 0; tick < 255; tick++) {
            ones[tick] = register <= share ? 1 : 0;
            register = register < 128 ? register * 2 : (register * 2 - 256) ^ 29;
        }
        int[] ticks = {0, 1, 2, 62, 63, 64, 127, 128, 191, 192, 253, 254, 255, 256, 257, 318, 319, 320, 508, 509, 510,
            511, 512, 575, 576, 764, 765, 766, 767, 768, 959, 960, 998, 999};
        for (int tick : ticks) {
            checks.due("round: share " + share + ", seed " + seed + ", tick " + tick, bench.bit(0, tick), ones[tick % 255]);
        }
    }

    /** Kinds 1 to 4, for each pair and each three of bits, and of one line twice. */
    private static void gatesBitByBit() {
        for (int bits = 0; bits < 8; bits++) {
            ShareStreams bench = new ShareStreams();
            int one = bits & 1;
            int other = bits >> 1 & 1;
            int choice = bits >> 2;
            bench.source(256 * one, 1);
            bench.source(256 * other, 2);
            bench.source(256 * choice, 3);
            bench.gate(1, 0, 1);
            bench.gate(2, 0, 1);
            bench.gate(3, 0, 1);
            bench.choose(0, 1, 2);
            bench.gate(1, 0, 0);
            bench.gate(2, 0, 0);
            bench.gate(3, 0, 0);
            bench.choose(0, 0, 0);
            bench.turn(0);
            int[] due = {one, other, choice, one & other, one | other, one ^ other, choice == 1 ? one : other,
                one, one, 0, one, 1 - one};
            for (int line = 0; line < due.length; line++) {
                checks.due("bits " + bits + ": line " + line + ", tick 0", bench.bit(line, 0), due[line]);
                checks.due("bits " + bits + ": line " + line + ", tick 999", bench.bit(line, 999), due[line]);
                checks.due("bits " + bits + ": line " + line + ", count", bench.line(line, 4), 256 * due[line]);
            }
        }
    }

    /** A turned line has no ones behind the length, where its count ends. */
    private static void turnedAtTheEnds() {
        ShareStreams bench = new ShareStreams();
        bench.source(0, 1);
        bench.turn(0);
        bench.turn(1);
        int[] lengths = {1, 2, 63, 64, 65, 127, 128, 129, 255, 256, 959, 960, 961, 999, 1000};
        for (int length : lengths) {
            bench.setLength(length);
            checks.due("turned: ones over " + length, bench.line(1, 4), length);
            checks.due("turned twice: ones over " + length, bench.line(2, 4), 0);
        }
    }

    /** "of two lines ahead of it": the last one there is, the same one twice, but not the new one itself. */
    private static void ofLinesAheadAlone() {
        for (int lines = 0; lines < 16; lines++) {
            ShareStreams bench = Benches.withSources(lines);
            for (int kind = 1; kind <= 3; kind++) {
                checks.due("ahead: gate, one is itself", bench.gate(kind, lines, 0), UNKNOWN);
                checks.due("ahead: gate, other is itself", bench.gate(kind, 0, lines), UNKNOWN);
            }
            checks.due("ahead: choose, one is itself", bench.choose(lines, 0, 0), UNKNOWN);
            checks.due("ahead: choose, other is itself", bench.choose(0, lines, 0), UNKNOWN);
            checks.due("ahead: choose, choice is itself", bench.choose(0, 0, lines), UNKNOWN);
            checks.due("ahead: turn of itself", bench.turn(lines), UNKNOWN);
            checks.due("ahead: delay of itself", bench.delay(lines, 1), UNKNOWN);
            int last = lines - 1;
            int due = lines == 0 ? UNKNOWN : lines;
            checks.due("ahead: gate of the last one", Benches.withSources(lines).gate(1, last, last), due);
            checks.due("ahead: choose of the last one", Benches.withSources(lines).choose(last, last, last), due);
            checks.due("ahead: turn of the last one", Benches.withSources(lines).turn(last), due);
            checks.due("ahead: delay of the last one", Benches.withSources(lines).delay(last, 1), due);
        }
    }

    /** "its bit is that of the other line d ticks earlier, 0 in the first d ticks" (d 1 to 60) */
    private static void firstTicksOfADelay() {
        for (int ticks = 1; ticks <= 60; ticks++) {
            ShareStreams bench = new ShareStreams();
            bench.source(256, 1);
            bench.source(1, 1);
            bench.delay(0, ticks);
            bench.delay(1, ticks);
            checks.due("delay " + ticks + ": tick 0", bench.bit(2, 0), 0);
            checks.due("delay " + ticks + ": the last one of the first ticks", bench.bit(2, ticks - 1), 0);
            checks.due("delay " + ticks + ": the first one behind them", bench.bit(2, ticks), 1);
            checks.due("delay " + ticks + ": tick 999", bench.bit(2, 999), 1);
            checks.due("delay " + ticks + ": ahead of the tick 0 of the other", bench.bit(3, ticks - 1), 0);
            checks.due("delay " + ticks + ": the tick 0 of the other", bench.bit(3, ticks), 1);
            checks.due("delay " + ticks + ": the tick 1 of the other", bench.bit(3, ticks + 1), 0);
            checks.due("delay " + ticks + ": the tick 255 of the other", bench.bit(3, ticks + 255), 1);
            checks.due("delay " + ticks + ": the tick 765 of the other", bench.bit(3, ticks + 765), 1);
            bench.setLength(ticks);
            checks.due("delay " + ticks + ": no ones in the first ticks", bench.line(2, 4), 0);
            bench.setLength(ticks + 1);
            checks.due("delay " + ticks + ": one in one more", bench.line(2, 4), 1);
            bench.setLength(1000);
            checks.due("delay " + ticks + ": ones over 1000", bench.line(2, 4), 1000 - ticks);
        }
    }

    /** The first d ticks are 0 also where the other line has its own first ticks turned to 1. */
    private static void delaysOfDelays() {
        ShareStreams bench = new ShareStreams();
        bench.source(256, 1);
        bench.delay(0, 60);
        bench.turn(1);
        bench.delay(2, 60);
        int[] ticks = {0, 59, 60, 119, 120, 999};
        int[] turned = {1, 1, 0, 0, 0, 0};
        int[] delayed = {0, 0, 1, 1, 0, 0};
        for (int index = 0; index < ticks.length; index++) {
            checks.due("delays: turned, tick " + ticks[index], bench.bit(2, ticks[index]), turned[index]);
            checks.due("delays: delayed, tick " + ticks[index], bench.bit(3, ticks[index]), delayed[index]);
        }
        ShareStreams row = new ShareStreams();
        row.source(256, 1);
        for (int line = 0; line < 15; line++) {
            row.delay(line, 60);
            checks.due("delays: row, the last 0", row.bit(line + 1, 60 * line + 59), 0);
            checks.due("delays: row, the first 1", row.bit(line + 1, 60 * line + 60), 1);
        }
    }

    /** Promise 7: "NONE if both are so already", and an act if one of both is not. */
    private static void reseedAtTheEdges() {
        ShareStreams bench = Benches.withSources(16);
        checks.due("reseed: the last line", bench.reseed(15, 256, 255), 155);
        checks.due("reseed: both are so", bench.reseed(15, 256, 255), NONE);
        checks.due("reseed: another share alone", bench.reseed(15, 0, 255), 256);
        checks.due("reseed: another seed alone", bench.reseed(15, 0, 1), 0);
        checks.due("reseed: both are so, least", bench.reseed(15, 0, 1), NONE);
        checks.due("reseed: the others stay", bench.line(14, 1), 145);
        checks.due("reseed: the first line", bench.reseed(0, 255, 254), 5);
        checks.due("reseed: its bits go with it", bench.bit(0, 0), 1);
        checks.due("reseed: undo", bench.undo(), 3);
        checks.due("reseed: its bits are back", bench.bit(0, 0), 0);
        checks.due("reseed: its share is back", bench.line(0, 1), 5);
    }

    /** "one for each tick, from the tick 0 on, without an end": the length is no end of the bits. */
    private static void ticksWithoutAnEnd() {
        ShareStreams bench = new ShareStreams();
        bench.source(256, 1);
        bench.setLength(1);
        checks.due("no end: tick 0", bench.bit(0, 0), 1);
        checks.due("no end: tick 1", bench.bit(0, 1), 1);
        checks.due("no end: tick 999", bench.bit(0, 999), 1);
        checks.due("no end: tick 1000 is not told", bench.bit(0, 1000), BAD_VALUE);
        checks.due("no end: tick -1", bench.bit(0, -1), BAD_VALUE);
        checks.due("no end: errorAt 1000", bench.errorAt(0, 1000), 0);
    }
}
