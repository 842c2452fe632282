/** Promises 16 to 23: what is told of the lines. */
public final class ToldTest {
    private static final int UNKNOWN = ShareStreams.UNKNOWN;
    private static final int BAD_VALUE = ShareStreams.BAD_VALUE;
    private static final int NONE = ShareStreams.NONE;
    private static final int[] FAR = {Integer.MIN_VALUE, -1000, -1, Integer.MAX_VALUE};

    private static final Checks checks = new Checks();

    public static void main(String[] args) {
        registers();
        countsAndShares();
        exactShares();
        exactSharesAreRoundedDown();
        depthsAndSources();
        lineWrong();
        bit();
        overlap();
        errorAt();
        settles();
        bestSeed();
        unlike();
        count();
        checks.end();
    }

    /** Each of the 255 registers comes just once in 255 ticks, so a share of p makes p ones in them. */
    private static void registers() {
        for (int share = 0; share <= 256; share++) {
            ShareStreams bench = new ShareStreams();
            bench.setLength(255);
            for (int seed = 1; seed <= 16; seed++) {
                bench.source(share, seed * 15);
                checks.due("register: share " + share, bench.line(seed - 1, 4), Math.min(share, 255));
                checks.due("register: the seed at tick 0", bench.bit(seed - 1, 0), seed * 15 <= share ? 1 : 0);
            }
        }
        // 128 doubled is 256, so that 0 is left, and 29 behind the exclusive or; 255 goes to 254 ^ 29.
        for (int share = 28; share <= 30; share++) {
            ShareStreams bench = new ShareStreams();
            bench.source(share, 128);
            checks.due("register: 29 behind 128, share " + share, bench.bit(0, 1), 29 <= share ? 1 : 0);
        }
        for (int share = 226; share <= 228; share++) {
            ShareStreams bench = new ShareStreams();
            bench.source(share, 255);
            checks.due("register: 227 behind 255, share " + share, bench.bit(0, 1), 227 <= share ? 1 : 0);
        }
    }

    private static void countsAndShares() {
        ShareStreams bench = new ShareStreams();
        bench.source(128, 1);
        int[] lengths = {1, 2, 63, 64, 65, 127, 128, 129, 255, 256, 257, 510, 511, 999, 1000};
        for (int length : lengths) {
            bench.setLength(length);
            int ones = 0;
            int register = 1;
            for (int tick = 0; tick < length; tick++) {
                ones += register <= 128 ? 1 : 0;
                register = register < 128 ? register * 2 : (register * 2 - 256) ^ 29;
            }
            int share = (int) ((long) ones * 65536 / length);
            checks.due("count over " + length, bench.line(0, 4), ones);
            checks.due("share over " + length, bench.line(0, 5), share);
            checks.due("exact share over " + length, bench.line(0, 6), 32768);
            checks.due("error over " + length, bench.line(0, 7), Math.abs(share - 32768));
            checks.due("errorAt " + length, bench.errorAt(0, length), Math.abs(share - 32768));
        }
    }

    private static void exactShares() {
        ShareStreams bench = new ShareStreams();
        bench.source(64, 1);
        bench.source(192, 2);
        bench.source(128, 3);
        bench.gate(1, 0, 1);
        bench.gate(2, 0, 1);
        bench.gate(3, 0, 1);
        bench.choose(0, 1, 2);
        bench.turn(0);
        bench.delay(1, 60);
        bench.choose(1, 0, 0);
        checks.due("exact: source", bench.line(0, 6), 16384);
        checks.due("exact: product", bench.line(3, 6), 12288);
        checks.due("exact: sum", bench.line(4, 6), 53248);
        checks.due("exact: difference", bench.line(5, 6), 40960);
        checks.due("exact: choice, by halves", bench.line(6, 6), 32768);
        checks.due("exact: turned", bench.line(7, 6), 49152);
        checks.due("exact: delay", bench.line(8, 6), 49152);
        checks.due("exact: choice, a quarter of the first one", bench.line(9, 6), 24576);
        bench.setLength(1);
        checks.due("exact: not by the length", bench.line(9, 6), 24576);
    }

    /** 1/256 of 1/256 of 1/256 of a whole is 1/256 of 65536 less than 1. */
    private static void exactSharesAreRoundedDown() {
        ShareStreams bench = new ShareStreams();
        bench.source(1, 1);
        bench.gate(1, 0, 0);
        bench.gate(1, 0, 1);
        bench.gate(2, 0, 1);
        bench.gate(3, 0, 1);
        bench.source(256, 1);
        bench.turn(1);
        bench.choose(1, 6, 0);
        bench.choose(6, 6, 6);
        checks.due("rounded: product of two", bench.line(1, 6), 1);
        checks.due("rounded: product of three", bench.line(2, 6), 0);
        checks.due("rounded: sum", bench.line(3, 6), 257);
        checks.due("rounded: difference", bench.line(4, 6), 257);
        checks.due("rounded: turned", bench.line(6, 6), 65535);
        // (1 * 256 + 65535 * 65280) / 65536 = 65279.007..
        checks.due("rounded: choice", bench.line(7, 6), 65279);
        checks.due("rounded: choice of alike ones", bench.line(8, 6), 65535);
        checks.due("rounded: whole", bench.line(5, 6), 65536);
    }

    private static void depthsAndSources() {
        ShareStreams bench = new ShareStreams();
        bench.source(64, 1);
        bench.source(192, 2);
        bench.source(128, 3);
        bench.gate(1, 0, 1);
        bench.gate(2, 3, 1);
        bench.choose(0, 1, 4);
        bench.choose(2, 4, 0);
        bench.turn(2);
        bench.delay(7, 1);
        bench.gate(3, 8, 8);
        bench.gate(1, 6, 9);
        int[] depths = {0, 0, 0, 1, 2, 3, 3, 1, 2, 3, 4};
        int[] sources = {1, 1, 1, 2, 2, 2, 3, 1, 1, 1, 3};
        for (int line = 0; line < depths.length; line++) {
            checks.due("depth of " + line, bench.line(line, 8), depths[line]);
            checks.due("sources of " + line, bench.line(line, 9), sources[line]);
        }
        checks.due("deepest", bench.count(5), 4);
        checks.due("sources", bench.count(2), 3);
        ShareStreams other = new ShareStreams();
        for (int line = 0; line < 15; line++) {
            other.source(line, 1);
        }
        other.gate(1, 14, 0);
        checks.due("sources of two of fifteen", other.line(15, 9), 2);
        ShareStreams deep = new ShareStreams();
        deep.source(200, 1);
        for (int line = 0; line < 15; line++) {
            deep.gate(2, line, line);
        }
        checks.due("depth of a long row", deep.line(15, 8), 15);
        checks.due("sources of a long row", deep.line(15, 9), 1);
    }

    private static void lineWrong() {
        ShareStreams bench = new ShareStreams();
        bench.source(1, 1);
        checks.due("line: 1", bench.line(1, 0), UNKNOWN);
        checks.due("line: UNKNOWN ahead of BAD_VALUE", bench.line(1, 10), UNKNOWN);
        checks.due("line: what 10", bench.line(0, 10), BAD_VALUE);
        for (int far : FAR) {
            checks.due("line: " + far, bench.line(far, 0), UNKNOWN);
            checks.due("line: what " + far, bench.line(0, far), BAD_VALUE);
        }
    }

    private static void bit() {
        ShareStreams bench = new ShareStreams();
        bench.source(256, 1);
        bench.setLength(1);
        checks.due("bit: past the length", bench.bit(0, 999), 1);
        checks.due("bit: tick 1000", bench.bit(0, 1000), BAD_VALUE);
        checks.due("bit: line 1", bench.bit(1, 0), UNKNOWN);
        checks.due("bit: UNKNOWN ahead of BAD_VALUE", bench.bit(1, 1000), UNKNOWN);
        for (int far : FAR) {
            checks.due("bit: line " + far, bench.bit(far, 0), UNKNOWN);
            checks.due("bit: tick " + far, bench.bit(0, far), BAD_VALUE);
        }
        ShareStreams other = new ShareStreams();
        other.source(77, 5);
        int[] ticks = {0, 1, 62, 63, 64, 65, 127, 128, 254, 300, 489};
        for (int tick : ticks) {
            checks.due("bit: again behind 255 ticks, " + tick, other.bit(0, tick), other.bit(0, tick + 255));
            checks.due("bit: again behind 510 ticks, " + tick, other.bit(0, tick), other.bit(0, tick + 510));
        }
    }

    private static void overlap() {
        ShareStreams bench = new ShareStreams();
        checks.due("overlap: no line", bench.overlap(0, 0), UNKNOWN);
        bench.source(256, 1);
        bench.source(128, 1);
        bench.turn(1);
        bench.source(0, 1);
        checks.due("overlap: with all ones", bench.overlap(0, 1), 0);
        checks.due("overlap: with all zeros", bench.overlap(3, 1), 0);
        bench.setLength(255);
        // 128 ones of 255: (128 * 255 - 128 * 128) * 65536 / 65025 = 16383.7
        checks.due("overlap: with itself", bench.overlap(1, 1), 16383);
        // (0 - 128 * 127) * 65536 / 65025 = -16383.7, towards 0
        checks.due("overlap: with the turned one", bench.overlap(1, 2), -16383);
        checks.due("overlap: the turned one with it", bench.overlap(2, 1), -16383);
        bench.setLength(1000);
        int ones = bench.line(1, 4);
        checks.due("overlap: at 1000", bench.overlap(1, 1), ones * (1000L - ones) * 65536 / 1000000);
        checks.due("overlap: one 4", bench.overlap(4, 0), UNKNOWN);
        checks.due("overlap: other 4", bench.overlap(0, 4), UNKNOWN);
        for (int far : FAR) {
            checks.due("overlap: one " + far, bench.overlap(far, 0), UNKNOWN);
            checks.due("overlap: other " + far, bench.overlap(0, far), UNKNOWN);
        }
    }

    private static void errorAt() {
        ShareStreams bench = new ShareStreams();
        bench.source(64, 100);
        // The bit at the tick 0 is 0, so the share over 1 tick is 0.
        checks.due("errorAt: 1", bench.errorAt(0, 1), 16384);
        // 64 ones of 255: 16448
        checks.due("errorAt: 255", bench.errorAt(0, 255), 64);
        checks.due("errorAt: the length stays", bench.count(1), 256);
        checks.due("errorAt: no act", bench.count(6), 1);
        checks.due("errorAt: 0", bench.errorAt(0, 0), BAD_VALUE);
        checks.due("errorAt: 1001", bench.errorAt(0, 1001), BAD_VALUE);
        checks.due("errorAt: line 1", bench.errorAt(1, 1), UNKNOWN);
        checks.due("errorAt: UNKNOWN ahead of BAD_VALUE", bench.errorAt(1, 0), UNKNOWN);
        for (int far : FAR) {
            checks.due("errorAt: line " + far, bench.errorAt(far, 1), UNKNOWN);
            checks.due("errorAt: length " + far, bench.errorAt(0, far), BAD_VALUE);
        }
    }

    private static void settles() {
        ShareStreams bench = new ShareStreams();
        bench.source(256, 1);
        bench.delay(0, 10);
        checks.due("settles: at once", bench.settles(0, 0), 1);
        // Of n ticks n - 10 have 1; the error is 65536 - (n - 10) * 65536 / n, 656 at 1000.
        checks.due("settles: at 1000", bench.settles(1, 656), 1000);
        checks.due("settles: never", bench.settles(1, 655), NONE);
        checks.due("settles: a half", bench.settles(1, 32768), 20);
        checks.due("settles: less than a half", bench.settles(1, 32767), 21);
        checks.due("settles: any", bench.settles(1, 65536), 1);
        checks.due("settles: bound -1", bench.settles(1, -1), BAD_VALUE);
        checks.due("settles: bound 65537", bench.settles(1, 65537), BAD_VALUE);
        checks.due("settles: line 2", bench.settles(2, 0), UNKNOWN);
        checks.due("settles: UNKNOWN ahead of BAD_VALUE", bench.settles(2, -1), UNKNOWN);
        for (int far : FAR) {
            checks.due("settles: line " + far, bench.settles(far, 0), UNKNOWN);
            checks.due("settles: bound " + far, bench.settles(0, far), BAD_VALUE);
        }
        fromTheLastLengthOn();
    }

    /** An error that is small at first, and small again later, settles only the last time. */
    private static void fromTheLastLengthOn() {
        ShareStreams bench = new ShareStreams();
        bench.source(128, 130);
        int length = bench.settles(0, 2000);
        int earlier = 0;
        int later = 0;
        for (int ticks = 1; ticks <= 1000; ticks++) {
            ShareStreams other = new ShareStreams();
            other.source(128, 130);
            boolean within = other.errorAt(0, ticks) <= 2000;
            earlier += within && ticks < length - 1 ? 1 : 0;
            later += !within && ticks >= length ? 1 : 0;
            if (ticks == length - 1) {
                checks.due("settles: beyond just ahead of it", within ? 1 : 0, 0);
            }
        }
        checks.due("settles: within earlier too", earlier > 0 ? 1 : 0, 1);
        checks.due("settles: beyond later", later, 0);
    }

    private static void bestSeed() {
        ShareStreams bench = new ShareStreams();
        bench.source(100, 9);
        bench.source(90, 40);
        bench.gate(1, 0, 1);
        bench.setLength(100);
        String before = Checks.told(bench);
        int seed = bench.bestSeed(0, 2, 0);
        int error = bench.bestSeed(0, 2, 1);
        checks.same("bestSeed: changes nothing", Checks.told(bench), before);
        checks.due("bestSeed: no act", bench.count(6), 4);
        int bestSeed = 0;
        int leastError = Integer.MAX_VALUE;
        for (int tried = 1; tried <= 255; tried++) {
            ShareStreams trial = new ShareStreams();
            trial.source(100, tried);
            trial.source(90, 40);
            trial.gate(1, 0, 1);
            int found = trial.errorAt(2, 100);
            if (found < leastError) {
                leastError = found;
                bestSeed = tried;
            }
        }
        checks.due("bestSeed: seed", seed, bestSeed);
        checks.due("bestSeed: error", error, leastError);
        checks.due("bestSeed: of itself", bench.bestSeed(1, 1, 1) <= bench.line(1, 7) ? 1 : 0, 1);
        checks.due("bestSeed: of another source", bench.bestSeed(0, 1, 0), 1);
        checks.due("bestSeed: of another source, the error", bench.bestSeed(0, 1, 1), bench.line(1, 7));
        checks.due("bestSeed: of a line ahead of it", bench.bestSeed(1, 0, 0), 1);
        checks.due("bestSeed: of a line ahead of it, the error", bench.bestSeed(1, 0, 1), bench.line(0, 7));
        bestSeedWrong(bench);
        bestSeedAtTheEdges();
    }

    /** Over 1 tick a seed up to the share makes a 1, a greater one a 0. */
    private static void bestSeedAtTheEdges() {
        ShareStreams bench = new ShareStreams();
        bench.source(64, 1);
        bench.source(254, 1);
        bench.gate(1, 0, 1);
        bench.source(127, 200);
        bench.source(129, 200);
        bench.setLength(1);
        // The exact share is 16384 * 65024 / 65536 = 16256, nearer to 0, which 255 alone makes.
        checks.due("bestSeed: the last one", bench.bestSeed(1, 2, 0), 255);
        checks.due("bestSeed: the last one, the error", bench.bestSeed(1, 2, 1), 16256);
        checks.due("bestSeed: the lowest of those above the share", bench.bestSeed(3, 3, 0), 128);
        checks.due("bestSeed: the lowest of those above the share, the error", bench.bestSeed(3, 3, 1), 32512);
        checks.due("bestSeed: the lowest of those up to the share", bench.bestSeed(4, 4, 0), 1);
        checks.due("bestSeed: the lowest of those up to the share, the error", bench.bestSeed(4, 4, 1), 32512);
    }

    private static void bestSeedWrong(ShareStreams bench) {
        checks.due("bestSeed: source 3", bench.bestSeed(3, 0, 0), UNKNOWN);
        checks.due("bestSeed: line 3", bench.bestSeed(0, 3, 0), UNKNOWN);
        checks.due("bestSeed: what 2", bench.bestSeed(0, 0, 2), BAD_VALUE);
        checks.due("bestSeed: no source", bench.bestSeed(2, 0, 0), ShareStreams.NOT_POSSIBLE);
        checks.due("bestSeed: BAD_VALUE ahead of NOT_POSSIBLE", bench.bestSeed(2, 0, 2), BAD_VALUE);
        checks.due("bestSeed: UNKNOWN ahead of BAD_VALUE", bench.bestSeed(0, 3, 2), UNKNOWN);
        checks.due("bestSeed: UNKNOWN ahead of NOT_POSSIBLE", bench.bestSeed(2, 3, 0), UNKNOWN);
        for (int far : FAR) {
            checks.due("bestSeed: source " + far, bench.bestSeed(far, 0, 0), UNKNOWN);
            checks.due("bestSeed: line " + far, bench.bestSeed(0, far, 0), UNKNOWN);
            checks.due("bestSeed: what " + far, bench.bestSeed(0, 0, far), BAD_VALUE);
        }
    }

    private static void unlike() {
        ShareStreams bench = new ShareStreams();
        checks.due("unlike: no line", bench.unlike(0), UNKNOWN);
        bench.source(256, 1);
        bench.delay(0, 60);
        bench.delay(1, 1);
        bench.delay(2, 60);
        bench.delay(3, 60);
        bench.delay(4, 60);
        bench.delay(5, 60);
        bench.source(77, 200);
        bench.gate(1, 7, 6);
        checks.due("unlike: source", bench.unlike(0), 0);
        checks.due("unlike: delay by 60", bench.unlike(1), 0);
        checks.due("unlike: delay by 61", bench.unlike(2), 1);
        checks.due("unlike: delay by 121", bench.unlike(3), 61);
        checks.due("unlike: delay by 241", bench.unlike(5), 181);
        // Ones from 301 on: the ticks 60 to 254 have 0, those 255 later have 1 from 301, so 46 on.
        checks.due("unlike: delay by 301", bench.unlike(6), 195);
        int ones = 0;
        for (int tick = 60; tick < 255; tick++) {
            ones += bench.bit(7, tick);
        }
        checks.due("unlike: product with it", bench.unlike(8), ones);
        checks.due("unlike: line 9", bench.unlike(9), UNKNOWN);
        for (int far : FAR) {
            checks.due("unlike: line " + far, bench.unlike(far), UNKNOWN);
        }
        bench.setLength(1);
        checks.due("unlike: not by the length", bench.unlike(3), 61);
    }

    private static void count() {
        ShareStreams bench = new ShareStreams();
        bench.source(256, 1);
        bench.turn(0);
        checks.due("count: no errors", bench.count(3), 0);
        checks.due("count: of alike errors the lowest line", bench.count(4), 0);
        bench.delay(0, 4);
        bench.delay(0, 4);
        bench.delay(0, 2);
        bench.setLength(8);
        checks.due("count: lines", bench.count(0), 5);
        checks.due("count: length", bench.count(1), 8);
        checks.due("count: sources", bench.count(2), 1);
        checks.due("count: sum of errors", bench.count(3), 32768 + 32768 + 16384);
        checks.due("count: the greatest error, the lowest line", bench.count(4), 2);
        checks.due("count: depth", bench.count(5), 1);
        checks.due("count: states", bench.count(6), 4);
        checks.due("count: text", bench.count(7), 0);
        bench.type('a');
        checks.due("count: text of one", bench.count(7), 1);
        checks.due("count: 8", bench.count(8), BAD_VALUE);
        for (int far : FAR) {
            checks.due("count: " + far, bench.count(far), BAD_VALUE);
        }
        for (int line = 0; line < 5; line++) {
            bench.removeLast();
        }
        checks.due("count: no line any more", bench.count(4), NONE);
        checks.due("count: no depth any more", bench.count(5), 0);
        checks.due("count: no error any more", bench.count(3), 0);
        checks.due("count: no source any more", bench.count(2), 0);
    }
}
