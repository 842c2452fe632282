/** Ready benches, and all that each part of one tells, so that two of them can be compared. */
final class Benches {
    /** 80 characters: eight lines without a fault. */
    static final String WHOLE_TEXT = "source 123 123;mux 0 0 0;mux 0 0 0;mux 0 0 0;mux 0 0 0;mux 0 0 0;mux 0 0 0;not 0";

    interface Start {
        ShareStreams bench();
    }

    interface Call {
        int on(ShareStreams bench);
    }

    interface Part {
        String of(ShareStreams bench);
    }

    private Benches() {
    }

    static ShareStreams withSources(int sources) {
        ShareStreams bench = new ShareStreams();
        for (int line = 0; line < sources; line++) {
            bench.source(10 * line + 5, 255 - line);
        }
        return bench;
    }

    /** Four lines, the length 100, four states in the history, a snapshot, and a text without a fault. */
    static ShareStreams busy() {
        ShareStreams bench = new ShareStreams();
        bench.source(200, 3);
        bench.source(90, 77);
        bench.keep();
        bench.gate(1, 0, 1);
        bench.turn(2);
        bench.setLength(100);
        type(bench, "source 9 9;not 0");
        return bench;
    }

    /** Sixteen lines, four states in the history, a snapshot, and a text of 80 characters. */
    static ShareStreams full() {
        ShareStreams bench = withSources(14);
        bench.keep();
        bench.turn(13);
        bench.setLength(9);
        bench.delay(14, 60);
        type(bench, WHOLE_TEXT);
        return bench;
    }

    static void type(ShareStreams bench, String text) {
        for (int index = 0; index < text.length(); index++) {
            bench.type(text.charAt(index));
        }
    }

    /** How the lines are made, and the length: this is a state, in 66 calls at most. */
    static String state(ShareStreams bench) {
        StringBuilder told = new StringBuilder();
        int lines = bench.count(0);
        told.append(lines).append(' ').append(bench.count(1));
        for (int line = 0; line < lines; line++) {
            for (int what = 0; what <= 3; what++) {
                told.append(what == 0 ? '\n' : ' ').append(bench.line(line, what));
            }
        }
        return told.append('\n').toString();
    }

    /** The states, the latest one first; they are gone then. */
    static String history(ShareStreams bench) {
        StringBuilder told = new StringBuilder();
        told.append(bench.count(6)).append('\n');
        for (int left = 0; left < 6; left++) {
            told.append(bench.undo()).append('\n').append(state(bench));
        }
        return told.toString();
    }

    static String snapshot(ShareStreams bench) {
        return bench.restore() + "\n" + state(bench);
    }

    /** The length of the text, and what is read of it when all lines are removed. */
    static String text(ShareStreams bench) {
        int length = bench.count(7);
        bench.setLength(1);
        for (int line = 0; line < 16; line++) {
            bench.removeLast();
        }
        return length + "\n" + bench.readCircuit() + "\n" + state(bench);
    }
}
