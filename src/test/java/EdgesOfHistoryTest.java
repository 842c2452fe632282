/** HISTORY, and the promises 13 to 15: empty, one state, all four, one more; no snapshot, one, another. */
public final class EdgesOfHistoryTest {
    private static final int NONE = ShareStreams.NONE;

    private static final Checks checks = new Checks();

    public static void main(String[] args) {
        emptyAtFirst();
        emptyAgain();
        eachActIsOneMore();
        oldestIsDropped();
        latestIsRestored();
        fullManyTimes();
        statesAreNotTouched();
        stateIsLinesAndLength();
        whatIsNoAct();
        snapshotEmptyAtFirst();
        snapshotOfNothing();
        snapshotOfAll();
        snapshotStays();
        snapshotIsNotTouched();
        restoreIsAnAct();
        lastCallOfAll();
        checks.end();
    }

    /** "undo: NONE if the history is empty." */
    private static void emptyAtFirst() {
        ShareStreams bench = new ShareStreams();
        checks.due("empty: states", bench.count(6), 0);
        checks.due("empty: undo", bench.undo(), NONE);
        checks.due("empty: undo again", bench.undo(), NONE);
        bench.source(1, 1);
        checks.due("empty: one state then", bench.count(6), 1);
        checks.due("empty: undo of one", bench.undo(), 0);
        checks.due("empty: lines", bench.count(0), 0);
    }

    private static void emptyAgain() {
        ShareStreams bench = Benches.withSources(6);
        for (int left = 3; left >= 0; left--) {
            checks.due("again: undo", bench.undo(), left);
        }
        checks.due("again: undo of none", bench.undo(), NONE);
        checks.due("again: states", bench.count(6), 0);
        checks.due("again: lines that stay", bench.count(0), 2);
        bench.setLength(3);
        checks.due("again: one state", bench.undo(), 0);
        checks.due("again: length", bench.count(1), 256);
        checks.due("again: none", bench.undo(), NONE);
    }

    /** "Each call of a method that is described as an act records the state that was before it." */
    private static void eachActIsOneMore() {
        Benches.Call[] acts = allActs();
        for (int act = 0; act < acts.length; act++) {
            ShareStreams bench = start();
            String before = Checks.told(bench);
            checks.due("act " + act + " is done", acts[act].on(bench) >= 0 ? 1 : 0, 1);
            checks.due("act " + act + ": one state more", bench.count(6), 3);
            checks.due("act " + act + ": changed", Checks.told(bench).equals(before) ? 1 : 0, 0);
            checks.due("act " + act + ": undo", bench.undo(), 2);
            checks.same("act " + act + ": the state before it", Checks.told(bench), before);
        }
    }

    /** Two lines, two states, a snapshot without lines, and a text of two lines. */
    private static ShareStreams start() {
        ShareStreams bench = new ShareStreams();
        bench.keep();
        bench.source(200, 3);
        bench.source(90, 77);
        Benches.type(bench, "not 0;not 2");
        return bench;
    }

    private static Benches.Call[] allActs() {
        return new Benches.Call[] {bench -> bench.source(0, 1), bench -> bench.gate(1, 0, 0),
            bench -> bench.choose(0, 0, 1), bench -> bench.turn(1), bench -> bench.delay(1, 60),
            bench -> bench.reseed(0, 200, 4), bench -> bench.reseed(0, 201, 3), bench -> bench.removeLast(),
            bench -> bench.setLength(1), bench -> bench.readCircuit(), bench -> bench.restore()};
    }

    /** "A history of at most 4 states is kept; when one more is recorded, the oldest one is dropped." */
    private static void oldestIsDropped() {
        Benches.Call[] acts = allActs();
        for (int act = 0; act < acts.length; act++) {
            ShareStreams bench = start();
            bench.setLength(255);
            bench.setLength(254);
            String before = Benches.state(bench);
            checks.due("fifth: four states", bench.count(6), 4);
            checks.due("fifth: act " + act + " is done", acts[act].on(bench) >= 0 ? 1 : 0, 1);
            checks.due("fifth: four states still", bench.count(6), 4);
            checks.due("fifth: undo", bench.undo(), 3);
            checks.same("fifth: before act " + act, Benches.state(bench), before);
            bench.undo();
            bench.undo();
            checks.due("fifth: the last one left", bench.undo(), 0);
            checks.due("fifth: lines of the oldest one left", bench.count(0), 1);
            checks.due("fifth: the oldest one is gone", bench.undo(), NONE);
        }
    }

    /** "undo() removes and restores the latest one." */
    private static void latestIsRestored() {
        ShareStreams bench = new ShareStreams();
        for (int length = 1; length <= 4; length++) {
            bench.setLength(length);
        }
        checks.due("latest: left", bench.undo(), 3);
        checks.due("latest: length", bench.count(1), 3);
        bench.setLength(1000);
        checks.due("latest: four again", bench.count(6), 4);
        checks.due("latest: undone", bench.undo(), 3);
        int[] lengths = {2, 1, 256};
        for (int length : lengths) {
            bench.undo();
            checks.due("latest: one after the other", bench.count(1), length);
        }
        checks.due("latest: none left", bench.undo(), NONE);
    }

    /** The four states are the latest ones however many were recorded before. */
    private static void fullManyTimes() {
        for (int acts = 4; acts <= 20; acts++) {
            ShareStreams bench = new ShareStreams();
            for (int length = 1; length <= acts; length++) {
                bench.setLength(length);
            }
            for (int back = 1; back <= 4; back++) {
                int due = acts - back == 0 ? 256 : acts - back;
                checks.due("many: left", bench.undo(), 4 - back);
                checks.due("many: " + acts + ", back " + back, bench.count(1), due);
            }
            checks.due("many: no fifth", bench.undo(), NONE);
        }
    }

    /** What is changed later leaves the states that were recorded as they were. */
    private static void statesAreNotTouched() {
        ShareStreams bench = new ShareStreams();
        bench.source(1, 1);
        bench.reseed(0, 2, 2);
        bench.reseed(0, 3, 3);
        bench.removeLast();
        bench.source(4, 4);
        for (int number = 3; number >= 1; number--) {
            bench.undo();
            if (number == 3) {
                checks.due("untouched: no line", bench.count(0), 0);
                bench.undo();
            }
            checks.due("untouched: share", bench.line(0, 1), number);
            checks.due("untouched: seed", bench.line(0, 2), number);
        }
    }

    /** "A state is everything but the text, the history and the snapshot." */
    private static void stateIsLinesAndLength() {
        ShareStreams bench = Benches.full();
        String before = Checks.told(bench);
        bench.setLength(1000);
        checks.due("state: undo", bench.undo(), 3);
        checks.same("state: sixteen lines and the length", Checks.told(bench), before);
        checks.due("state: the text is none of it", bench.count(7), 80);
        bench.removeLast();
        bench.clearText();
        bench.undo();
        checks.due("state: the text does not come back", bench.count(7), 0);
        checks.due("state: the snapshot is none of it", bench.restore(), 14);
    }

    private static void whatIsNoAct() {
        ShareStreams bench = Benches.busy();
        bench.undo();
        checks.due("no act: undo", bench.count(6), 3);
        bench.keep();
        checks.due("no act: keep", bench.count(6), 3);
        bench.type('x');
        checks.due("no act: type", bench.count(6), 3);
        bench.clearText();
        checks.due("no act: clearText", bench.count(6), 3);
        bench.bestSeed(0, 3, 0);
        bench.settles(3, 0);
        bench.overlap(0, 3);
        bench.unlike(3);
        bench.errorAt(3, 1);
        checks.due("no act: what is told", bench.count(6), 3);
    }

    /** "There is one snapshot, empty at first." "restore: NONE if there is no snapshot." */
    private static void snapshotEmptyAtFirst() {
        ShareStreams bench = Benches.withSources(3);
        checks.due("no snapshot: restore", bench.restore(), NONE);
        checks.due("no snapshot: lines", bench.count(0), 3);
        checks.due("no snapshot: states", bench.count(6), 3);
        bench.undo();
        checks.due("no snapshot: undo takes none", bench.restore(), NONE);
    }

    /** A snapshot without lines is a snapshot. */
    private static void snapshotOfNothing() {
        ShareStreams bench = new ShareStreams();
        checks.due("nothing kept: lines", bench.keep(), 0);
        checks.due("nothing kept: restore at once", bench.restore(), 0);
        checks.due("nothing kept: an act", bench.count(6), 1);
        bench.source(1, 1);
        bench.setLength(1);
        checks.due("nothing kept: restore", bench.restore(), 0);
        checks.due("nothing kept: no lines", bench.count(0), 0);
        checks.due("nothing kept: the length", bench.count(1), 256);
        checks.due("nothing kept: states", bench.count(6), 4);
    }

    private static void snapshotOfAll() {
        ShareStreams bench = Benches.full();
        String before = Checks.told(bench);
        checks.due("all kept: lines", bench.keep(), 16);
        for (int line = 0; line < 4; line++) {
            bench.removeLast();
        }
        bench.setLength(1);
        checks.due("all kept: restore", bench.restore(), 16);
        checks.same("all kept: sixteen lines and the length", Checks.told(bench), before);
    }

    /** "Takes a snapshot in place of the one that was." "Restores the snapshot, which stays." */
    private static void snapshotStays() {
        ShareStreams bench = Benches.withSources(2);
        bench.keep();
        bench.turn(1);
        checks.due("stays: first", bench.restore(), 2);
        bench.turn(1);
        checks.due("stays: second", bench.restore(), 2);
        for (int left = 3; left >= 0; left--) {
            bench.undo();
        }
        checks.due("stays: behind all undo", bench.restore(), 2);
        bench.removeLast();
        checks.due("in place: another", bench.keep(), 1);
        bench.source(8, 8);
        bench.source(9, 9);
        checks.due("in place: the first one is gone", bench.restore(), 1);
        checks.due("in place: still gone", bench.restore(), 1);
    }

    private static void snapshotIsNotTouched() {
        ShareStreams bench = Benches.withSources(2);
        bench.setLength(77);
        bench.keep();
        String kept = Checks.told(bench);
        bench.reseed(0, 1, 1);
        bench.setLength(78);
        bench.bestSeed(1, 1, 0);
        checks.read(bench, "not 0;not 1;not");
        bench.restore();
        checks.same("untouched: as it was kept", Checks.told(bench), kept);
        bench.reseed(1, 2, 2);
        bench.setLength(79);
        bench.undo();
        bench.restore();
        checks.same("untouched: when it was restored", Checks.told(bench), kept);
    }

    /** "restore: This is an act." Also if the state is like the snapshot: NONE is for no snapshot alone. */
    private static void restoreIsAnAct() {
        ShareStreams bench = Benches.withSources(1);
        bench.keep();
        checks.due("restore: alike", bench.restore(), 1);
        checks.due("restore: alike is recorded", bench.count(6), 2);
        bench.setLength(5);
        bench.restore();
        checks.due("restore: recorded", bench.count(6), 4);
        bench.restore();
        checks.due("restore: the fifth", bench.count(6), 4);
        bench.undo();
        bench.undo();
        checks.due("restore: undone", bench.count(1), 5);
    }

    /** "An object is used for at most 512 calls": the 512th one is still answered. */
    private static void lastCallOfAll() {
        ShareStreams bench = new ShareStreams();
        for (int call = 1; call <= 510; call++) {
            checks.due("call " + call, bench.setLength(call), call == 1 ? 256 : call - 1);
        }
        checks.due("call 511", bench.undo(), 3);
        checks.due("call 512", bench.count(1), 509);
    }
}
