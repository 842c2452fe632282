/** SHARES and LENGTH, and the promises 9, 16, 18, 19 and 20: no ones, all ones, one tick, 1000 ticks. */
public final class EdgesOfSharesTest {
    private static final int BAD_VALUE = ShareStreams.BAD_VALUE;
    private static final int NONE = ShareStreams.NONE;

    private static final Checks checks = new Checks();

    public static void main(String[] args) {
        lengthAtItsEnds();
        whatFollowsTheLength();
        whatDoesNotFollowTheLength();
        countOverOneTick();
        countOverAllTicks();
        sharesAreRoundedDown();
        exactSharesOfSources();
        exactSharesOfNoneAndAll();
        exactSharesAreRoundedDown();
        exactSharesKnowNothingOfOneAnother();
        errorsOnEitherSide();
        greatestError();
        overlapsAtTheEnds();
        overlapsTowardsZero();
        overlapsOfNothingToDo();
        numbersByWhichALineIsMade();
        depths();
        sources();
        settlesAtTheEnds();
        settlesFromTheLastOn();
        checks.end();
    }

    /** A line of all ones but for the first ticks, so that any count can be made. */
    private static ShareStreams onesBehind(int ticks) {
        ShareStreams bench = new ShareStreams();
        int line = bench.source(256, 1);
        for (int left = ticks; left > 0; left -= 60) {
            line = bench.delay(line, Math.min(60, left));
        }
        return bench;
    }

    private static int last(ShareStreams bench) {
        return bench.count(0) - 1;
    }

    /** "The bench has a length (1 to 1000; at first 256)"; "NONE if it is so already" */
    private static void lengthAtItsEnds() {
        ShareStreams bench = new ShareStreams();
        checks.due("length: at first", bench.count(1), 256);
        checks.due("length: as at first", bench.setLength(256), NONE);
        checks.due("length: the greatest", bench.setLength(1000), 256);
        checks.due("length: the greatest again", bench.setLength(1000), NONE);
        checks.due("length: one more", bench.setLength(1001), BAD_VALUE);
        checks.due("length: the least", bench.setLength(1), 1000);
        checks.due("length: the least again", bench.setLength(1), NONE);
        checks.due("length: one less", bench.setLength(0), BAD_VALUE);
        checks.due("length: still", bench.count(1), 1);
        checks.due("length: two acts", bench.count(6), 2);
    }

    /** "n, where nothing else is told": count, share, error, overlap, sum, greatest error, best seed. */
    private static void whatFollowsTheLength() {
        ShareStreams bench = onesBehind(1);
        int[] lengths = {1, 2, 4, 1000};
        int[] counts = {0, 1, 3, 999};
        int[] shares = {0, 32768, 49152, 65470};
        int[] overlaps = {0, 16384, 12288, 65};
        for (int index = 0; index < lengths.length; index++) {
            bench.setLength(lengths[index]);
            String over = "over " + lengths[index] + ": ";
            checks.due(over + "count", bench.line(1, 4), counts[index]);
            checks.due(over + "share", bench.line(1, 5), shares[index]);
            checks.due(over + "error", bench.line(1, 7), 65536 - shares[index]);
            checks.due(over + "overlap with itself", bench.overlap(1, 1), overlaps[index]);
            checks.due(over + "sum of errors", bench.count(3), 65536 - shares[index]);
            checks.due(over + "the greatest error", bench.count(4), 1);
            checks.due(over + "error with the best seed", bench.bestSeed(0, 1, 1), 65536 - shares[index]);
        }
    }

    private static void whatDoesNotFollowTheLength() {
        ShareStreams bench = new ShareStreams();
        bench.source(100, 7);
        bench.delay(0, 60);
        bench.delay(1, 1);
        String before = longerThanTheLength(bench);
        int[] lengths = {1, 255, 1000};
        for (int length : lengths) {
            bench.setLength(length);
            checks.same("not by the length " + length, longerThanTheLength(bench), before);
            checks.due("not by the length: errorAt changes no length", bench.count(1), length);
        }
    }

    private static String longerThanTheLength(ShareStreams bench) {
        int[] told = {bench.line(2, 6), bench.line(2, 8), bench.line(2, 9), bench.bit(2, 61), bench.bit(2, 999),
            bench.errorAt(2, 1), bench.errorAt(2, 999), bench.errorAt(2, 1000), bench.settles(2, 9000),
            bench.unlike(2), bench.count(5)};
        return java.util.Arrays.toString(told);
    }

    /** "how many of its bits at the ticks 0 to n - 1 are 1", n being 1, then 2 */
    private static void countOverOneTick() {
        ShareStreams bench = new ShareStreams();
        // From 1 the register goes to 2, from 142 to 1, so that one bit alone is 1.
        bench.source(1, 1);
        bench.source(1, 142);
        bench.setLength(1);
        checks.due("one tick: the first bit", bench.line(0, 4), 1);
        checks.due("one tick: a whole share", bench.line(0, 5), 65536);
        checks.due("one tick: not the second bit", bench.line(1, 4), 0);
        checks.due("one tick: no share", bench.line(1, 5), 0);
        bench.setLength(2);
        checks.due("two ticks: the first bit", bench.line(0, 4), 1);
        checks.due("two ticks: the second bit", bench.line(1, 4), 1);
        checks.due("two ticks: half a share", bench.line(1, 5), 32768);
    }

    /** The tick 999 is the last one that a length of 1000 counts. */
    private static void countOverAllTicks() {
        ShareStreams bench = new ShareStreams();
        int register = 1;
        for (int tick = 0; tick < 255 * 4 - 999; tick++) {
            register = register < 128 ? register * 2 : (register * 2 - 256) ^ 29;
        }
        // Its 1 comes at the ticks 234, 489, 744 and 999.
        bench.source(1, register);
        checks.due("all ticks: tick 999", bench.bit(0, 999), 1);
        bench.setLength(999);
        checks.due("all ticks: count over 999", bench.line(0, 4), 3);
        bench.setLength(1000);
        checks.due("all ticks: count over 1000", bench.line(0, 4), 4);
        checks.due("all ticks: share over 1000", bench.line(0, 5), 262);
    }

    /** "its share is count * 65536 / n", rounded down */
    private static void sharesAreRoundedDown() {
        share(3, 3, 0);
        share(2, 3, 21845);
        share(1, 3, 43690);
        share(0, 3, 65536);
        share(4, 7, 28086);
        share(6, 7, 9362);
        share(500, 1000, 32768);
        share(499, 1000, 32833);
        share(840, 1000, 10485);
        share(0, 1000, 65536);
        share(1, 999, 65470);
        share(1, 256, 65280);
    }

    private static void share(int zeros, int length, int due) {
        ShareStreams bench = onesBehind(zeros);
        bench.setLength(length);
        checks.due("share: " + zeros + " zeros in " + length, bench.line(last(bench), 5), due);
        checks.due("share: count", bench.line(last(bench), 4), length - zeros);
    }

    /** "of a source p * 256" */
    private static void exactSharesOfSources() {
        for (int share = 0; share <= 256; share++) {
            ShareStreams bench = new ShareStreams();
            bench.source(share, 255);
            checks.due("exact: source " + share, bench.line(0, 6), share * 256);
            bench.turn(0);
            checks.due("exact: turned " + share, bench.line(1, 6), 65536 - share * 256);
            bench.delay(0, 60);
            checks.due("exact: delayed " + share, bench.line(2, 6), share * 256);
        }
    }

    /** Each kind made of lines without ones and of lines of all ones. */
    private static void exactSharesOfNoneAndAll() {
        for (int bits = 0; bits < 8; bits++) {
            ShareStreams bench = new ShareStreams();
            int one = bits & 1;
            int other = bits >> 1 & 1;
            int choice = bits >> 2;
            bench.source(256 * one, 9);
            bench.source(256 * other, 9);
            bench.source(256 * choice, 9);
            bench.gate(1, 0, 1);
            bench.gate(2, 0, 1);
            bench.gate(3, 0, 1);
            bench.choose(0, 1, 2);
            int[] due = {one, other, choice, one & other, one | other, one ^ other, choice == 1 ? one : other};
            for (int line = 0; line < due.length; line++) {
                checks.due("exact of " + bits + ": line " + line, bench.line(line, 6), 65536 * due[line]);
                checks.due("error of " + bits + ": line " + line, bench.line(line, 7), 0);
                checks.due("settles of " + bits + ": line " + line, bench.settles(line, 0), 1);
            }
        }
    }

    private static void exactSharesAreRoundedDown() {
        ShareStreams bench = new ShareStreams();
        bench.source(1, 1);
        bench.source(255, 1);
        bench.gate(1, 0, 0);
        // 1 * 65280 / 65536 is 0, so that the sum loses nothing, nor does the difference.
        bench.gate(1, 2, 1);
        bench.gate(2, 2, 1);
        bench.gate(3, 2, 1);
        // 65280 * 65280 / 65536 = 65025, then 64770.99.., then 64516.99..
        bench.gate(1, 1, 1);
        bench.gate(1, 6, 1);
        bench.gate(1, 7, 1);
        // 64770 + 65280 less 64516, and less twice that
        bench.gate(2, 7, 1);
        bench.gate(3, 7, 1);
        // (64770 * 256 + 1 * 65280) / 65536 = 254.003.., (1 * 256 + 64770 * 65280) / 65536 = 64516.99..
        bench.choose(7, 2, 0);
        bench.choose(2, 7, 0);
        // (1 * 65535 + 65535 * 1) / 65536 = 1.99..: if each half were rounded, nothing would be left.
        bench.turn(2);
        bench.choose(2, 13, 13);
        int[] due = {256, 65280, 1, 0, 65281, 65281, 65025, 64770, 64516, 65534, 1018, 254, 64516, 65535, 1};
        for (int line = 0; line < due.length; line++) {
            checks.due("rounded: line " + line, bench.line(line, 6), due[line]);
        }
    }

    /** "(So it would be if the lines had nothing to do with one another.)" */
    private static void exactSharesKnowNothingOfOneAnother() {
        ShareStreams bench = new ShareStreams();
        bench.source(128, 1);
        bench.gate(1, 0, 0);
        bench.gate(2, 0, 0);
        bench.gate(3, 0, 0);
        bench.choose(0, 0, 0);
        bench.turn(0);
        bench.gate(1, 0, 5);
        bench.setLength(255);
        int[] exact = {32768, 16384, 49152, 32768, 32768, 32768, 16384};
        int[] counts = {128, 128, 128, 0, 128, 127, 0};
        for (int line = 0; line < exact.length; line++) {
            checks.due("with itself: exact share of " + line, bench.line(line, 6), exact[line]);
            checks.due("with itself: count of " + line, bench.line(line, 4), counts[line]);
            int error = Math.abs(counts[line] * 65536 / 255 - exact[line]);
            checks.due("with itself: error of " + line, bench.line(line, 7), error);
        }
    }

    /** "how far its share is from its exact share", on the one side and on the other */
    private static void errorsOnEitherSide() {
        ShareStreams bench = new ShareStreams();
        bench.source(128, 1);
        bench.source(128, 255);
        // Over one tick the share is a whole one, or none.
        checks.due("either side: share above", bench.errorAt(0, 1), 32768);
        checks.due("either side: share below", bench.errorAt(1, 1), 32768);
        bench.source(64, 1);
        bench.source(64, 255);
        checks.due("either side: far above", bench.errorAt(2, 1), 49152);
        checks.due("either side: near below", bench.errorAt(3, 1), 16384);
        // 64 ones of 255 are 16448; the turned one has 191, 49087.
        checks.due("either side: a little above", bench.errorAt(2, 255), 64);
        bench.turn(2);
        checks.due("either side: a little below", bench.errorAt(4, 255), 65);
    }

    private static void greatestError() {
        ShareStreams bench = onesBehind(60);
        bench.turn(1);
        checks.due("greatest: all is missing", bench.errorAt(1, 1), 65536);
        checks.due("greatest: all is too much", bench.errorAt(2, 1), 65536);
        checks.due("greatest: over 60", bench.errorAt(1, 60), 65536);
        checks.due("greatest: over 61", bench.errorAt(1, 61), 65536 - 1074);
        checks.due("greatest: settles at once within all", bench.settles(1, 65536), 1);
        checks.due("greatest: settles behind it", bench.settles(1, 65535), 61);
        checks.due("greatest: over 1000", bench.errorAt(1, 1000), 65536 - 61603);
    }

    /** One tick overlaps in nothing; a half with itself is a quarter; with the turned one it is below 0. */
    private static void overlapsAtTheEnds() {
        ShareStreams bench = onesBehind(1);
        bench.turn(1);
        bench.setLength(1);
        for (int one = 0; one < 3; one++) {
            for (int other = 0; other < 3; other++) {
                checks.due("overlap: over one tick", bench.overlap(one, other), 0);
            }
        }
        bench.setLength(2);
        checks.due("overlap: the greatest", bench.overlap(1, 1), 16384);
        checks.due("overlap: the greatest, turned", bench.overlap(2, 2), 16384);
        checks.due("overlap: the least", bench.overlap(1, 2), -16384);
        checks.due("overlap: the least, the other way", bench.overlap(2, 1), -16384);
        checks.due("overlap: with all ones", bench.overlap(1, 0), 0);
        bench.setLength(1000);
        // (999 * 1000 - 999 * 999) * 65536 / 1000000 = 65.47
        checks.due("overlap: over 1000", bench.overlap(1, 1), 65);
        checks.due("overlap: over 1000, below 0", bench.overlap(1, 2), -65);
        ShareStreams half = onesBehind(500);
        half.turn(last(half));
        half.setLength(1000);
        checks.due("overlap: half of 1000", half.overlap(9, 9), 16384);
        checks.due("overlap: half of 1000, below 0", half.overlap(9, 10), -16384);
    }

    /** "(rounded towards 0)" */
    private static void overlapsTowardsZero() {
        int[] zeros = {1, 2, 1, 2, 3, 4, 5, 6};
        int[] lengths = {3, 3, 7, 7, 7, 7, 7, 7};
        int[] due = {14563, 14563, 8024, 13374, 16049, 16049, 13374, 8024};
        for (int index = 0; index < zeros.length; index++) {
            ShareStreams bench = onesBehind(zeros[index]);
            bench.turn(1);
            bench.setLength(lengths[index]);
            String name = "towards 0: " + zeros[index] + " of " + lengths[index];
            checks.due(name, bench.overlap(1, 1), due[index]);
            checks.due(name + ", below 0", bench.overlap(1, 2), -due[index]);
        }
    }

    /** "it is 0 if they have nothing to do with one another, as far as n ticks tell" */
    private static void overlapsOfNothingToDo() {
        ShareStreams bench = onesBehind(2);
        bench.source(0, 5);
        // Bits 0 0 1 1 and 0 1 0 1 are both 1 once in four ticks.
        bench.delay(0, 1);
        bench.delay(0, 3);
        bench.gate(3, 3, 1);
        bench.gate(2, 5, 4);
        bench.setLength(4);
        checks.due("nothing to do: counts", bench.line(1, 4) * 10 + bench.line(6, 4), 22);
        checks.due("nothing to do", bench.overlap(1, 6), 0);
        checks.due("nothing to do: no ones", bench.overlap(2, 6), 0);
        checks.due("nothing to do: all ones", bench.overlap(0, 6), 0);
        checks.due("nothing to do: none with itself", bench.overlap(2, 2), 0);
        checks.due("nothing to do: all with itself", bench.overlap(0, 0), 0);
    }

    /** Promise 16: "NONE for a turned line", "NONE but for a choice" */
    private static void numbersByWhichALineIsMade() {
        ShareStreams bench = new ShareStreams();
        bench.source(0, 255);
        bench.source(256, 1);
        bench.gate(1, 0, 1);
        bench.gate(2, 1, 0);
        bench.gate(3, 1, 1);
        bench.choose(2, 0, 1);
        bench.turn(0);
        bench.delay(6, 60);
        int[][] due = {{0, 0, 255, NONE}, {0, 256, 1, NONE}, {1, 0, 1, NONE}, {2, 1, 0, NONE}, {3, 1, 1, NONE},
            {4, 2, 0, 1}, {5, 0, NONE, NONE}, {6, 6, 60, NONE}};
        for (int line = 0; line < due.length; line++) {
            for (int what = 0; what < 4; what++) {
                checks.due("made by: line " + line + ", " + what, bench.line(line, what), due[line][what]);
            }
        }
        // What stood at the place of a line before is not told of the one that takes its place.
        ShareStreams other = new ShareStreams();
        other.source(9, 9);
        other.choose(0, 0, 0);
        other.removeLast();
        other.turn(0);
        checks.due("made by: a turned line at the place of a choice", other.line(1, 2), NONE);
        checks.due("made by: no third number left", other.line(1, 3), NONE);
    }

    /** "0 of a source, otherwise 1 and that of the deepest line by which it is made" */
    private static void depths() {
        ShareStreams bench = new ShareStreams();
        bench.source(1, 1);
        bench.turn(0);
        bench.delay(1, 1);
        bench.gate(1, 0, 2);
        bench.gate(2, 3, 0);
        bench.choose(4, 0, 0);
        bench.choose(0, 5, 0);
        bench.choose(0, 0, 6);
        bench.gate(3, 0, 0);
        bench.source(2, 2);
        int[] due = {0, 1, 2, 3, 4, 5, 6, 7, 1, 0};
        for (int line = 0; line < due.length; line++) {
            checks.due("depth of " + line, bench.line(line, 8), due[line]);
        }
        checks.due("depth: the deepest is not the last", bench.count(5), 7);
        ShareStreams row = Benches.withSources(1);
        checks.due("depth: a source alone", row.count(5), 0);
        for (int line = 1; line < 16; line++) {
            row.turn(line - 1);
            checks.due("depth: in a row", row.line(line, 8), line);
        }
        checks.due("depth: the greatest there is", row.count(5), 15);
        row.removeLast();
        checks.due("depth: one less", row.count(5), 14);
    }

    /** "how many sources it comes from, each once" */
    private static void sources() {
        ShareStreams bench = new ShareStreams();
        bench.source(9, 9);
        bench.source(9, 9);
        bench.gate(1, 0, 0);
        bench.gate(1, 0, 1);
        bench.choose(2, 3, 0);
        bench.delay(4, 1);
        bench.turn(2);
        int[] due = {1, 1, 1, 2, 2, 2, 1};
        for (int line = 0; line < due.length; line++) {
            checks.due("sources of " + line, bench.line(line, 9), due[line]);
        }
        ShareStreams others = Benches.withSources(4);
        others.gate(1, 3, 1);
        others.gate(2, 3, 1);
        others.gate(3, 3, 1);
        others.turn(3);
        others.delay(3, 1);
        others.choose(1, 2, 3);
        others.turn(3);
        others.choose(3, 3, 3);
        int[] dueWithoutTheFirst = {1, 1, 1, 1, 2, 2, 2, 1, 1, 3, 1, 1};
        for (int line = 0; line < dueWithoutTheFirst.length; line++) {
            checks.due("sources without the first one, of " + line, others.line(line, 9), dueWithoutTheFirst[line]);
        }
        ShareStreams most = Benches.withSources(11);
        most.choose(0, 1, 2);
        for (int line = 12; line < 16; line++) {
            most.choose(line - 1, 2 * line - 21, 2 * line - 20);
            checks.due("sources of choices", most.line(line, 9), 2 * line - 19);
        }
        checks.due("sources: the most there are", most.line(15, 9), 11);
        checks.due("sources: all of the bench", most.count(2), 11);
    }

    /** "the least length from which on, up to 1000"; "NONE if the error at 1000 is greater" */
    private static void settlesAtTheEnds() {
        ShareStreams bench = onesBehind(1);
        // The error over n ticks is 65536 / n, rounded up: 66 from 993 on.
        checks.due("settles: at the least length", bench.settles(0, 0), 1);
        checks.due("settles: within anything", bench.settles(1, 65536), 1);
        checks.due("settles: within all but the greatest error", bench.settles(1, 65535), 2);
        checks.due("settles: the error at 1000", bench.errorAt(1, 1000), 66);
        checks.due("settles: just within at 1000", bench.settles(1, 66), 993);
        checks.due("settles: the error at 1000 is greater", bench.settles(1, 65), NONE);
        checks.due("settles: no error at all", bench.settles(1, 0), NONE);
        // Ten zeros: 655360 / n, rounded up.
        ShareStreams ten = onesBehind(10);
        checks.due("settles: over 999", ten.errorAt(1, 999), 657);
        checks.due("settles: over 1000", ten.errorAt(1, 1000), 656);
        checks.due("settles: at the greatest length", ten.settles(1, 656), 1000);
        checks.due("settles: ahead of it", ten.settles(1, 657), 998);
        checks.due("settles: never", ten.settles(1, 655), NONE);
    }

    /** An error that was within the bound before it was beyond it once more does not count. */
    private static void settlesFromTheLastOn() {
        for (int seed = 1; seed <= 255; seed += 25) {
            int[] counts = countsOfUnion(seed);
            for (int bound = 0; bound <= 4096; bound += 512) {
                ShareStreams bench = new ShareStreams();
                bench.source(150, seed);
                bench.source(70, 256 - seed);
                bench.gate(2, 0, 1);
                int exact = 150 * 256 + 70 * 256 - 150 * 70;
                int due = NONE;
                for (int length = 1000; length >= 1; length--) {
                    if (Math.abs(counts[length] * 65536 / length - exact) > bound) {
                        break;
                    }
                    due = length;
                }
                checks.due("settles: seed " + seed + ", bound " + bound, bench.settles(2, bound), due);
            }
        }
    }

    /** Over each length, of the sum of a source 150 and a source 70. */
    private static int[] countsOfUnion(int seed) {
        int[] counts = new int[1001];
        int one = seed;
        int other = 256 - seed;
        for (int tick = 0; tick < 1000; tick++) {
            counts[tick + 1] = counts[tick] + (one <= 150 || other <= 70 ? 1 : 0);
            one = one < 128 ? one * 2 : (one * 2 - 256) ^ 29;
            other = other < 128 ? other * 2 : (other * 2 - 256) ^ 29;
        }
        return counts;
    }
}
