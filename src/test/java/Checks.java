/** Counts the answers of one test that are not as due, and ends it. */
final class Checks {
    private int asked = 0;
    private int wrong = 0;

    void due(String call, long got, long want) {
        asked++;
        if (got != want) {
            wrong++;
            System.out.println(call + " answered " + got + ", due is " + want);
        }
    }

    void type(ShareStreams bench, String text) {
        for (int index = 0; index < text.length(); index++) {
            bench.type(text.charAt(index));
        }
    }

    /** Reads a text as a circuit, in place of the text that was. */
    int read(ShareStreams bench, String text) {
        bench.clearText();
        type(bench, text);
        return bench.readCircuit();
    }

    /** All that a bench tells of its lines and its length, so that two states can be compared. */
    static String told(ShareStreams bench) {
        StringBuilder told = new StringBuilder();
        told.append(bench.count(0)).append(' ').append(bench.count(1));
        for (int line = 0; line < bench.count(0); line++) {
            for (int what = 0; what <= 9; what++) {
                told.append(what == 0 ? '\n' : ' ').append(bench.line(line, what));
            }
        }
        return told.toString();
    }

    void same(String what, String got, String want) {
        asked++;
        if (!got.equals(want)) {
            wrong++;
            System.out.println(what + " told:\n" + got + "\ndue is:\n" + want);
        }
    }

    void end() {
        System.out.println(asked + " answers asked, " + wrong + " not as due");
        if (wrong != 0) {
            System.exit(1);
        }
    }
}
