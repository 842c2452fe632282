/** Promises 10 to 12: circuits that are read, the places of faults, and the text. */
public final class CircuitTest {
    private static final int UNKNOWN = ShareStreams.UNKNOWN;
    private static final int FULL = ShareStreams.FULL;
    private static final int FAULT = -100000100;

    private static final Checks checks = new Checks();

    public static void main(String[] args) {
        everyWord();
        numbersInRange();
        faultsOfWords();
        faultsOfNumbers();
        faultsOfBlanksAndEnds();
        linesAhead();
        fullBench();
        allOrNone();
        typing();
        checks.end();
    }

    private static void everyWord() {
        ShareStreams bench = new ShareStreams();
        String text = "source 200 3;source 90 77;and 0 1;or 1 0;xor 0 1;mux 0 1 2;not 5;delay 3 60";
        checks.due("read: every word", checks.read(bench, text), 8);
        checks.due("read: one act", bench.count(6), 1);
        checks.due("read: the text stays", bench.count(7), text.length());
        ShareStreams same = new ShareStreams();
        same.source(200, 3);
        same.source(90, 77);
        same.gate(1, 0, 1);
        same.gate(2, 1, 0);
        same.gate(3, 0, 1);
        same.choose(0, 1, 2);
        same.turn(5);
        same.delay(3, 60);
        checks.same("read: every word", Checks.told(bench), Checks.told(same));
        checks.due("read: undone", bench.undo(), 0);
        checks.due("read: all undone", bench.count(0), 0);
        checks.due("read: undo leaves the text", bench.count(7), text.length());
        checks.due("read: again", bench.readCircuit(), 8);
        checks.due("read: twice", bench.readCircuit(), 16);
        checks.due("read: the numbers stay as they are", bench.line(15, 1), 3);
    }

    private static void numbersInRange() {
        for (int number = 0; number <= 3000; number += number < 300 ? 1 : 97) {
            fault("source " + number + " 1", faultOfNumber(number, 0, 256, 7));
            fault("source 1 " + number, faultOfNumber(number, 1, 255, 9));
            fault("source 0 1;delay 0 " + number, faultOfNumber(number, 1, 60, 19));
            faultOfLine("not ", number);
            faultOfLine("and ", number);
            faultOfLine("or 0 ", number);
            faultOfLine("xor 0 ", number);
            faultOfLine("mux ", number);
            faultOfLine("mux 0 ", number);
            faultOfLine("mux 0 0 ", number);
            faultOfLine("delay ", number);
            fault("source 1 1;not 0" + number, 16);
        }
    }

    private static void faultOfLine(String front, int number) {
        int place = faultOfNumber(number, 0, 15, front.length());
        String[] behind = {"", " 1", " 1 1"};
        for (String more : behind) {
            String text = front + number + more;
            if (text.matches("(not .*)|((and|or|xor|delay) .* .*)|(mux .* .* .*)") && place >= 0) {
                fault(text, place);
            }
        }
        if (place < 0 && front.equals("not ")) {
            faultless(front + number);
        }
        if (place < 0 && front.equals("mux 0 0 ")) {
            faultless(front + number);
        }
    }

    /** The place of the first digit by which a number is out of its range, or -1 if none is. */
    private static int faultOfNumber(int number, int least, int most, int start) {
        String digits = String.valueOf(number);
        if (number < least) {
            return start;
        }
        for (int length = 1; length <= digits.length(); length++) {
            if (Integer.parseInt(digits.substring(0, length)) > most) {
                return start + length - 1;
            }
        }
        return -1;
    }

    private static void faultsOfWords() {
        fault("", 0);
        for (char character = 0; character < 300; character++) {
            boolean begins = "saoxmnd".indexOf(character) >= 0;
            fault(String.valueOf(character), begins ? 1 : 0);
        }
        fault(String.valueOf((char) 65535), 0);
        String[] words = {"source", "and", "or", "xor", "mux", "not", "delay"};
        for (String word : words) {
            for (int length = 1; length <= word.length(); length++) {
                fault(word.substring(0, length), length);
                fault(word.substring(0, length) + "?", length);
                fault(word.substring(0, length) + Character.toUpperCase(word.charAt(0)), length);
            }
        }
        fault("Source 1 1", 0);
        fault("sauce", 1);
        fault("ands 0 0", 3);
        fault("an d 0 0", 2);
        fault("nor 0 0", 2);
        fault("mot 0", 1);
    }

    private static void faultsOfNumbers() {
        fault("source 257 1", 9);
        fault("source 2560 1", 10);
        fault("source 00 1", 8);
        fault("source 01 1", 8);
        fault("source -1 1", 7);
        fault("source +1 1", 7);
        fault("source 1 0", 9);
        fault("source 1 256", 11);
        fault("source 1 2550", 12);
        fault("source 1 1/", 10);
        fault("source 1 1:", 10);
        fault("source / 1", 7);
        fault("source : 1", 7);
        fault("delay 0 0", 8);
        fault("delay 0 61", 9);
        fault("delay 0 600", 10);
        fault("and 16 0", 5);
        fault("and 0 16", 7);
        fault("or 150 0", 5);
        fault("mux 0 0 16", 9);
        fault("mux 0 0 2 ", 9);
        fault("xor 0 0" + (char) 0x0661, 7);
    }

    private static void faultsOfBlanksAndEnds() {
        fault(" source 1 1", 0);
        fault("source  1 1", 7);
        fault("source 1  1", 9);
        fault("source 1 1 ", 10);
        fault("source 1 1;", 11);
        fault("source 1 1;;", 11);
        fault(";", 0);
        fault("source 1 1; not 0", 11);
        fault("source 1 1 ;not 0", 10);
        fault("source", 6);
        fault("source ", 7);
        fault("source 1", 8);
        fault("source 1 ", 9);
        fault("source 1;", 8);
        fault("and 0;", 5);
        fault("mux 0 0;", 7);
        fault("mux 0 0", 7);
        fault("not 0 0", 5);
        fault("delay 0", 7);
        fault("not", 3);
        fault("source 1 1,not 0", 10);
        fault("source 1 1\n", 10);
        fault("source 1 1" + (char) 0, 10);
    }

    private static void linesAhead() {
        ShareStreams bench = new ShareStreams();
        checks.due("ahead: itself", checks.read(bench, "not 0"), UNKNOWN);
        checks.due("ahead: behind it", checks.read(bench, "source 1 1;not 2;source 1 1"), UNKNOWN);
        checks.due("ahead: one", checks.read(bench, "source 1 1;and 1 0"), UNKNOWN);
        checks.due("ahead: other", checks.read(bench, "source 1 1;or 0 1"), UNKNOWN);
        checks.due("ahead: of a choice, one", checks.read(bench, "source 1 1;mux 1 0 0"), UNKNOWN);
        checks.due("ahead: of a choice, other", checks.read(bench, "source 1 1;mux 0 1 0"), UNKNOWN);
        checks.due("ahead: of a choice, choice", checks.read(bench, "source 1 1;mux 0 0 1"), UNKNOWN);
        checks.due("ahead: of a delay", checks.read(bench, "source 1 1;delay 1 1"), UNKNOWN);
        checks.due("ahead: ticks are no line", checks.read(bench, "source 1 1;delay 0 60"), 2);
        checks.due("ahead: lines that are there", checks.read(bench, "not 1;not 2"), 4);
        checks.due("ahead: fault first", checks.read(bench, "not 9;"), FAULT - 6);
        checks.due("ahead: 15", checks.read(bench, "not 15"), UNKNOWN);
        checks.due("ahead: nothing of it added", bench.count(0), 4);
        checks.due("ahead: nothing of it recorded", bench.count(6), 2);
    }

    private static void fullBench() {
        ShareStreams bench = new ShareStreams();
        for (int line = 0; line < 14; line++) {
            bench.source(line, 1);
        }
        checks.due("full: three more", checks.read(bench, "not 0;not 1;not 2"), FULL);
        checks.due("full: UNKNOWN first", checks.read(bench, "not 0;not 15;not 2"), UNKNOWN);
        checks.due("full: a line past the room may be of line 15", checks.read(bench, "not 0;not 1;not 15"), FULL);
        checks.due("full: fault first", checks.read(bench, "not 0;not 1;not 16"), FAULT - 17);
        checks.due("full: nothing added", bench.count(0), 14);
        checks.due("full: two more", checks.read(bench, "not 0;not 14"), 16);
        checks.due("full: one more", checks.read(bench, "not 0"), FULL);
        ShareStreams other = new ShareStreams();
        other.source(1, 1);
        String most = "not 0;not 0;not 0;not 0;not 0;not 0;not 0;not 0;not 0;not 0;not 0;not 0;not 0";
        checks.due("full: the most lines of a text", checks.read(other, most), 14);
    }

    private static void allOrNone() {
        ShareStreams bench = new ShareStreams();
        bench.setLength(10);
        bench.source(7, 7);
        String before = Checks.told(bench);
        checks.read(bench, "source 1 1;source 2 2;not 9");
        checks.read(bench, "source 1 1;source 2 2;not");
        checks.same("all or none", Checks.told(bench), before);
        checks.due("all or none: nothing recorded", bench.count(6), 2);
        checks.due("all or none: the text stays", bench.count(7), 25);
    }

    private static void typing() {
        ShareStreams bench = new ShareStreams();
        checks.due("clear: empty", bench.clearText(), 0);
        for (int length = 1; length <= 80; length++) {
            checks.due("type " + length, bench.type((char) (length * 800)), length);
        }
        checks.due("type: full", bench.type('a'), FULL);
        checks.due("type: still", bench.count(7), 80);
        checks.due("type: no act", bench.count(6), 0);
        checks.due("clear: full", bench.clearText(), 80);
        checks.due("clear: no act", bench.count(6), 0);
        checks.due("clear: cleared", bench.count(7), 0);
        checks.due("clear: again", bench.clearText(), 0);
        checks.due("clear: room again", bench.type('s'), 1);
        checks.due("clear: nothing left of it", bench.readCircuit(), FAULT - 1);
        StringBuilder whole = new StringBuilder("source 123 123;mux 0 0 0;mux 0 0 0;mux 0 0 0;mux 0 0 0;mux 0 0 0;mux 0 0 0;not 0");
        checks.due("read: 80 characters", whole.length(), 80);
        checks.due("read: a whole text", checks.read(bench, whole.toString()), 8);
        whole.setCharAt(79, ' ');
        checks.due("read: a fault at the end", checks.read(bench, whole.toString()), FAULT - 79);
        whole.setCharAt(78, '0');
        checks.due("read: a fault near the end", checks.read(bench, whole.toString()), FAULT - 78);
        whole.setLength(74);
        whole.append(";sourc");
        checks.due("read: too early an end", checks.read(bench, whole.toString()), FAULT - 80);
    }

    /** The fault that is due for a text on a bench without lines, or -1 if none. */
    private static void fault(String text, int place) {
        int answer = checks.read(new ShareStreams(), text);
        if (place < 0) {
            checks.due("fault of '" + text + "' (none)", answer > 0 ? 1 : 0, 1);
        } else {
            checks.due("fault of '" + text + "'", answer, FAULT - place);
        }
    }

    /** Of a text that has no fault, but lines that are not ahead. */
    private static void faultless(String text) {
        checks.due("fault of '" + text + "'", checks.read(new ShareStreams(), text), UNKNOWN);
    }
}
