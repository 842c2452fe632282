/** The promises 21, 22 and 23: the first and the last seed, the ticks 60 and 254, no line and sixteen lines. */
public final class EdgesOfFindingsTest {
    private static final int BAD_VALUE = ShareStreams.BAD_VALUE;
    private static final int NOT_POSSIBLE = ShareStreams.NOT_POSSIBLE;
    private static final int NONE = ShareStreams.NONE;

    private static final Checks checks = new Checks();

    public static void main(String[] args) {
        eachSeedCanBeTheBest();
        lowestOfSeveral();
        seedsThatDoNotMatter();
        bestOfLinesBehind();
        bestOverOneTickAndAll();
        bestSeedOfNoSource();
        unlikeFromTick60();
        unlikeToTick254();
        unlikeOfSources();
        unlikeOfMadeLines();
        countsOfNothing();
        countsOfSixteen();
        sumOfAllAndNoOthers();
        greatestErrorOfSeveral();
        countsOfHistoryAndText();
        checks.end();
    }

    /**
     * Over one tick a quarter of anything is nearer to 0, which the seeds above the share make: with
     * the share s - 1 the lowest of them is s.
     */
    private static void eachSeedCanBeTheBest() {
        for (int seed = 1; seed <= 255; seed++) {
            ShareStreams bench = new ShareStreams();
            bench.source(64, 1);
            bench.source(seed - 1, 9);
            bench.gate(1, 0, 1);
            bench.setLength(1);
            checks.due("best: seed " + seed, bench.bestSeed(1, 2, 0), seed);
            checks.due("best: error with " + seed, bench.bestSeed(1, 2, 1), 64 * (seed - 1));
        }
    }

    /** "of several the lowest one" */
    private static void lowestOfSeveral() {
        ShareStreams bench = new ShareStreams();
        bench.source(128, 200);
        bench.source(0, 200);
        bench.source(256, 200);
        bench.source(255, 200);
        bench.source(1, 200);
        bench.setLength(1);
        // Half a whole is as far from 0 as from 1, so all seeds are alike.
        checks.due("lowest: all alike", bench.bestSeed(0, 0, 0), 1);
        checks.due("lowest: all alike, the error", bench.bestSeed(0, 0, 1), 32768);
        checks.due("lowest: no ones for any seed", bench.bestSeed(1, 1, 0), 1);
        checks.due("lowest: no ones, no error", bench.bestSeed(1, 1, 1), 0);
        checks.due("lowest: all ones for any seed", bench.bestSeed(2, 2, 0), 1);
        checks.due("lowest: all ones, no error", bench.bestSeed(2, 2, 1), 0);
        checks.due("lowest: a share of 255", bench.bestSeed(3, 3, 1), 256);
        // The share 1 is nearer to 0, which all seeds but 1 make.
        checks.due("lowest: all but the first one", bench.bestSeed(4, 4, 0), 2);
        checks.due("lowest: all but the first one, the error", bench.bestSeed(4, 4, 1), 256);
        bench.setLength(255);
        checks.due("lowest: a whole round has all numbers", bench.bestSeed(0, 0, 0), 1);
        checks.due("lowest: a whole round, the error", bench.bestSeed(0, 0, 1), 128);
    }

    /** The line has nothing of the source, or is ahead of it. */
    private static void seedsThatDoNotMatter() {
        ShareStreams bench = new ShareStreams();
        bench.source(100, 50);
        bench.turn(0);
        bench.source(90, 60);
        bench.gate(1, 2, 2);
        for (int line = 0; line <= 1; line++) {
            checks.due("no matter: a line ahead", bench.bestSeed(2, line, 0), 1);
            checks.due("no matter: the error as it is", bench.bestSeed(2, line, 1), bench.line(line, 7));
        }
        for (int line = 2; line <= 3; line++) {
            checks.due("no matter: a line of another one", bench.bestSeed(0, line, 0), 1);
            checks.due("no matter: its error as it is", bench.bestSeed(0, line, 1), bench.line(line, 7));
        }
    }

    /** What it tells is what reseed with that seed makes, and no seed makes a lesser error. */
    private static void bestOfLinesBehind() {
        ShareStreams bench = new ShareStreams();
        bench.source(100, 50);
        bench.source(90, 60);
        bench.delay(0, 60);
        bench.gate(3, 2, 1);
        bench.choose(3, 0, 1);
        bench.turn(4);
        int[] lengths = {1, 64, 65, 255, 1000};
        for (int length : lengths) {
            bench.setLength(length);
            for (int source = 0; source <= 1; source++) {
                int seed = bench.bestSeed(source, 5, 0);
                int error = bench.bestSeed(source, 5, 1);
                int due = leastOf(length, source);
                checks.due("behind: seed, length " + length, seed, due % 1000);
                checks.due("behind: error, length " + length, error, due / 1000);
                checks.due("behind: the seed stays", bench.line(source, 2), source == 0 ? 50 : 60);
            }
        }
    }

    /** The least error, a thousandfold, and its seed. */
    private static int leastOf(int length, int source) {
        int least = Integer.MAX_VALUE;
        for (int seed = 1; seed <= 255; seed++) {
            ShareStreams trial = new ShareStreams();
            trial.source(100, source == 0 ? seed : 50);
            trial.source(90, source == 1 ? seed : 60);
            trial.delay(0, 60);
            trial.gate(3, 2, 1);
            trial.choose(3, 0, 1);
            trial.turn(4);
            least = Math.min(least, trial.errorAt(5, length) * 1000 + seed);
        }
        return least;
    }

    private static void bestOverOneTickAndAll() {
        ShareStreams bench = Benches.withSources(1);
        bench.reseed(0, 200, 9);
        bench.setLength(1);
        checks.due("one tick: a 1 is nearer", bench.bestSeed(0, 0, 0), 1);
        checks.due("one tick: the error", bench.bestSeed(0, 0, 1), 65536 - 51200);
        bench.setLength(1000);
        int best = bench.bestSeed(0, 0, 0);
        checks.due("all ticks: reseed with it", bench.reseed(0, 200, best), best == 9 ? NONE : 200);
        checks.due("all ticks: makes the error", bench.line(0, 7), bench.bestSeed(0, 0, 1));
        checks.due("all ticks: the same again", bench.bestSeed(0, 0, 0), best);
    }

    /** "NOT_POSSIBLE if it is no source", for each other kind */
    private static void bestSeedOfNoSource() {
        ShareStreams bench = Benches.withSources(2);
        bench.gate(1, 0, 1);
        bench.gate(2, 0, 1);
        bench.gate(3, 0, 1);
        bench.choose(0, 1, 0);
        bench.turn(0);
        bench.delay(0, 1);
        for (int line = 2; line <= 7; line++) {
            checks.due("no source: bestSeed of " + line, bench.bestSeed(line, 0, 0), NOT_POSSIBLE);
            checks.due("no source: its error", bench.bestSeed(line, line, 1), NOT_POSSIBLE);
            checks.due("no source: reseed of " + line, bench.reseed(line, 1, 1), NOT_POSSIBLE);
            checks.due("a line that is no source is fine", bench.bestSeed(0, line, 0) >= 1 ? 1 : 0, 1);
        }
    }

    /** All ones behind some ticks: the bits below and above them are unlike for a round. */
    private static ShareStreams onesBehind(int ticks) {
        ShareStreams bench = new ShareStreams();
        int line = bench.source(256, 1);
        for (int left = ticks; left > 0; left -= 60) {
            line = bench.delay(line, Math.min(60, left));
        }
        return bench;
    }

    private static void unlikeBehind(int ticks, int due) {
        ShareStreams bench = onesBehind(ticks);
        checks.due("unlike: ones behind " + ticks, bench.unlike(bench.count(0) - 1), due);
    }

    /** "how many of the ticks 60 to 254": a delay by 60 is told as alike, one by a tick more is not. */
    private static void unlikeFromTick60() {
        unlikeBehind(0, 0);
        unlikeBehind(1, 0);
        unlikeBehind(59, 0);
        unlikeBehind(60, 0);
        unlikeBehind(61, 1);
        unlikeBehind(62, 2);
        // The tick 60 is compared with 315.
        unlikeBehind(315, 195);
        unlikeBehind(316, 194);
        unlikeBehind(317, 193);
    }

    /** The tick 254 is compared with 509, and none behind it. */
    private static void unlikeToTick254() {
        unlikeBehind(253, 193);
        unlikeBehind(254, 194);
        unlikeBehind(255, 195);
        unlikeBehind(256, 195);
        unlikeBehind(508, 2);
        unlikeBehind(509, 1);
        unlikeBehind(510, 0);
        unlikeBehind(511, 0);
    }

    /** "as its sources do": any source, and what is made of sources without a delay. */
    private static void unlikeOfSources() {
        for (int share = 0; share <= 256; share += 32) {
            ShareStreams bench = new ShareStreams();
            bench.source(share, 1 + share % 255);
            bench.source(256 - share, 255);
            bench.gate(1, 0, 1);
            bench.gate(2, 0, 1);
            bench.gate(3, 0, 1);
            bench.choose(0, 2, 1);
            bench.turn(5);
            bench.delay(6, 60);
            for (int line = 0; line < 8; line++) {
                checks.due("unlike: share " + share + ", line " + line, bench.unlike(line), 0);
            }
        }
    }

    private static void unlikeOfMadeLines() {
        ShareStreams bench = onesBehind(120);
        bench.turn(2);
        bench.gate(3, 2, 3);
        bench.source(1, 1);
        bench.gate(1, 5, 2);
        bench.gate(2, 5, 2);
        checks.due("unlike: turned", bench.unlike(3), 60);
        checks.due("unlike: always a 1", bench.unlike(4), 0);
        checks.due("unlike: the ones of the source are elsewhere", bench.unlike(6), 0);
        checks.due("unlike: a sum", bench.unlike(7), 60);
        bench.setLength(1);
        checks.due("unlike: not by the length", bench.unlike(3), 60);
        bench.setLength(1000);
        checks.due("unlike: nor by the greatest length", bench.unlike(3), 60);
    }

    /** "NONE without lines", "0 without lines" */
    private static void countsOfNothing() {
        ShareStreams bench = new ShareStreams();
        for (int round = 0; round < 2; round++) {
            checks.due("nothing: lines", bench.count(0), 0);
            checks.due("nothing: sources", bench.count(2), 0);
            checks.due("nothing: sum of errors", bench.count(3), 0);
            checks.due("nothing: line with the greatest error", bench.count(4), NONE);
            checks.due("nothing: depth", bench.count(5), 0);
            checks.due("nothing: -1", bench.count(-1), BAD_VALUE);
            checks.due("nothing: 8", bench.count(8), BAD_VALUE);
            bench.source(100, 1);
            bench.turn(0);
            bench.removeLast();
            bench.removeLast();
        }
    }

    /** Sixteen errors are added up, also where each is the greatest there is. */
    private static void countsOfSixteen() {
        ShareStreams bench = new ShareStreams();
        bench.source(256, 1);
        for (int line = 1; line < 16; line++) {
            bench.delay(0, line);
        }
        bench.setLength(1);
        checks.due("sixteen: lines", bench.count(0), 16);
        checks.due("sixteen: sources", bench.count(2), 1);
        checks.due("sixteen: sum of errors", bench.count(3), 15 * 65536);
        checks.due("sixteen: the greatest error", bench.count(4), 1);
        checks.due("sixteen: depth", bench.count(5), 1);
        bench.setLength(15);
        int sum = 0;
        for (int line = 1; line < 16; line++) {
            sum += 65536 - (15 - line) * 65536 / 15;
        }
        checks.due("sixteen: sum of errors over 15", bench.count(3), sum);
        checks.due("sixteen: the last one's error", bench.count(4), 15);
        checks.due("sixteen: all sources", Benches.withSources(16).count(2), 16);
    }

    /** Promise 23: "the sum of the errors of all lines", the first one's too, and none of those that are gone. */
    private static void sumOfAllAndNoOthers() {
        ShareStreams bench = new ShareStreams();
        bench.source(64, 255);
        bench.setLength(1);
        checks.due("sum: the first line", bench.count(3), 16384);
        checks.due("sum: its error is the greatest", bench.count(4), 0);
        bench.source(32, 255);
        checks.due("sum: two lines", bench.count(3), 16384 + 8192);
        checks.due("sum: the first one's error is still the greatest", bench.count(4), 0);
        bench.source(96, 255);
        checks.due("sum: three lines", bench.count(3), 16384 + 8192 + 24576);
        checks.due("sum: the last one's error is the greatest", bench.count(4), 2);
        bench.removeLast();
        checks.due("sum: without the removed one", bench.count(3), 16384 + 8192);
        checks.due("sum: the greatest error without it", bench.count(4), 0);
        bench.turn(0);
        bench.delay(2, 1);
        checks.due("sum: depth of lines that are there", bench.count(5), 2);
        bench.removeLast();
        checks.due("sum: depth without the removed one", bench.count(5), 1);
        checks.due("sum: sources without the removed one", bench.count(2), 2);
    }

    /** "the line with the greatest error, of several the lowest one" */
    private static void greatestErrorOfSeveral() {
        ShareStreams bench = new ShareStreams();
        bench.source(0, 1);
        checks.due("greatest: one line without an error", bench.count(4), 0);
        bench.source(256, 1);
        checks.due("greatest: two lines without an error", bench.count(4), 0);
        bench.delay(1, 7);
        checks.due("greatest: the last one", bench.count(4), 2);
        bench.delay(1, 7);
        checks.due("greatest: two alike", bench.count(4), 2);
        bench.turn(2);
        checks.due("greatest: too much as far as too little", bench.count(4), 2);
        bench.delay(1, 8);
        checks.due("greatest: a greater one", bench.count(4), 5);
        bench.delay(1, 8);
        checks.due("greatest: two greater ones", bench.count(4), 5);
    }

    /** From 0 to 4 states, and from 0 to 80 characters */
    private static void countsOfHistoryAndText() {
        ShareStreams bench = new ShareStreams();
        for (int acts = 0; acts <= 6; acts++) {
            checks.due("count: states", bench.count(6), Math.min(4, acts));
            bench.source(acts, 1);
        }
        for (int left = 3; left >= 0; left--) {
            bench.undo();
            checks.due("count: states left", bench.count(6), left);
        }
        bench.undo();
        checks.due("count: no states left", bench.count(6), 0);
        for (int length = 0; length <= 80; length++) {
            checks.due("count: characters", bench.count(7), length);
            bench.type('a');
        }
        checks.due("count: no 81st character", bench.count(7), 80);
        bench.clearText();
        checks.due("count: no characters", bench.count(7), 0);
    }
}
