/** Promises 13 to 15: undo, keep and restore. */
public final class HistoryTest {
    private static final int NONE = ShareStreams.NONE;

    private static final Checks checks = new Checks();

    public static void main(String[] args) {
        undoOfEveryAct();
        noMoreThanFourStates();
        undoIsNoAct();
        errorsRecordNothing();
        snapshot();
        snapshotIsNotInTheHistory();
        textIsNotInTheState();
        checks.end();
    }

    private static void undoOfEveryAct() {
        for (int act = 0; act < 10; act++) {
            ShareStreams bench = start();
            String before = Checks.told(bench);
            checks.due("act " + act + " is done", isError(doAct(bench, act)) ? 1 : 0, 0);
            checks.due("act " + act + " is recorded", bench.count(6), 4);
            String after = Checks.told(bench);
            checks.due("act " + act + " changes something", before.equals(after) ? 1 : 0, 0);
            checks.due("act " + act + ": undo", bench.undo(), 3);
            checks.same("act " + act + " undone", Checks.told(bench), before);
        }
    }

    /** With 3 states in the history and a snapshot that is not the state. */
    private static ShareStreams start() {
        ShareStreams bench = new ShareStreams();
        bench.source(200, 3);
        bench.source(90, 77);
        bench.keep();
        bench.gate(1, 0, 1);
        return bench;
    }

    private static int doAct(ShareStreams bench, int act) {
        switch (act) {
            case 0:
                return bench.source(5, 5);
            case 1:
                return bench.gate(2, 0, 1);
            case 2:
                return bench.choose(0, 1, 2);
            case 3:
                return bench.turn(2);
            case 4:
                return bench.delay(2, 9);
            case 5:
                return bench.reseed(1, 4, 4);
            case 6:
                return bench.removeLast();
            case 7:
                return bench.setLength(77);
            case 8:
                return checks.read(bench, "not 2;not 3");
            default:
                return bench.restore();
        }
    }

    private static boolean isError(int answer) {
        return answer < 0;
    }

    private static void noMoreThanFourStates() {
        ShareStreams bench = new ShareStreams();
        for (int line = 0; line < 9; line++) {
            bench.source(line, 1);
            checks.due("states", bench.count(6), Math.min(4, line + 1));
        }
        for (int left = 3; left >= 0; left--) {
            checks.due("undo, left", bench.undo(), left);
            checks.due("undo, lines", bench.count(0), 5 + left);
        }
        checks.due("undo: the oldest ones are dropped", bench.undo(), NONE);
        checks.due("undo: NONE changes nothing", bench.count(0), 5);
        bench.setLength(9);
        bench.setLength(8);
        checks.due("undo: used again", bench.undo(), 1);
        checks.due("undo: used again, length", bench.count(1), 9);
        checks.due("undo: used again", bench.undo(), 0);
        checks.due("undo: used again, length", bench.count(1), 256);
        ringOfStates();
    }

    private static void ringOfStates() {
        ShareStreams bench = new ShareStreams();
        for (int length = 1; length <= 50; length++) {
            bench.setLength(length);
            if (length % 3 == 0) {
                bench.undo();
                checks.due("ring: length", bench.count(1), length - 1);
                bench.setLength(length);
            }
        }
        for (int length = 49; length >= 46; length--) {
            bench.undo();
            checks.due("ring: length", bench.count(1), length);
        }
        checks.due("ring: empty", bench.undo(), NONE);
    }

    private static void undoIsNoAct() {
        ShareStreams bench = new ShareStreams();
        bench.source(1, 1);
        bench.source(2, 2);
        bench.undo();
        checks.due("undo: records nothing", bench.count(6), 1);
        bench.keep();
        checks.due("keep: records nothing", bench.count(6), 1);
    }

    private static void errorsRecordNothing() {
        ShareStreams bench = start();
        bench.restore();
        bench.undo();
        String before = Checks.told(bench);
        bench.source(257, 1);
        bench.gate(1, 0, 3);
        bench.gate(9, 0, 1);
        bench.choose(0, 3, 1);
        bench.turn(3);
        bench.delay(0, 61);
        bench.reseed(2, 1, 1);
        bench.reseed(0, 200, 3);
        bench.setLength(256);
        checks.read(bench, "nor");
        bench.bestSeed(0, 2, 0);
        checks.due("errors and NONE record nothing", bench.count(6), 3);
        checks.same("errors and NONE change nothing", Checks.told(bench), before);
    }

    private static void snapshot() {
        ShareStreams bench = new ShareStreams();
        checks.due("restore: no snapshot", bench.restore(), NONE);
        checks.due("restore: NONE records nothing", bench.count(6), 0);
        checks.due("keep: without lines", bench.keep(), 0);
        bench.source(9, 9);
        bench.setLength(99);
        checks.due("restore: without lines", bench.restore(), 0);
        checks.due("restore: the length too", bench.count(1), 256);
        checks.due("restore: an act", bench.undo(), 2);
        checks.due("restore: undone", bench.count(1), 99);
        String kept = Checks.told(bench);
        checks.due("keep: in place of the one that was", bench.keep(), 1);
        bench.reseed(0, 10, 10);
        bench.turn(0);
        bench.setLength(5);
        checks.due("restore", bench.restore(), 1);
        checks.same("restore", Checks.told(bench), kept);
        bench.reseed(0, 11, 11);
        checks.due("restore: the snapshot stays", bench.restore(), 1);
        checks.same("restore: the snapshot stays", Checks.told(bench), kept);
        checks.due("restore: alike is an act too", bench.restore(), 1);
        checks.due("restore: alike is undone", bench.undo(), 3);
        checks.same("restore: alike is undone", Checks.told(bench), kept);
    }

    private static void snapshotIsNotInTheHistory() {
        ShareStreams bench = new ShareStreams();
        bench.source(9, 9);
        bench.turn(0);
        bench.keep();
        bench.undo();
        bench.undo();
        checks.due("undo leaves the snapshot", bench.restore(), 2);
        checks.due("restore leaves the history", bench.count(6), 1);
    }

    private static void textIsNotInTheState() {
        ShareStreams bench = new ShareStreams();
        checks.type(bench, "source 1 1");
        bench.keep();
        bench.readCircuit();
        bench.type(';');
        bench.undo();
        checks.due("undo leaves the text", bench.count(7), 11);
        bench.restore();
        checks.due("restore leaves the text", bench.count(7), 11);
        bench.clearText();
        bench.undo();
        checks.due("undo brings no text", bench.count(7), 0);
    }
}
