import java.util.ArrayList;
import java.util.List;

/** TEXTS, and the promises 10 to 12: empty, 80 characters, every place of a circuit where a fault can be. */
public final class EdgesOfTextsTest {
    private static final int UNKNOWN = ShareStreams.UNKNOWN;
    private static final int FULL = ShareStreams.FULL;
    private static final int FAULT = -100000100;

    private static final String[] WORDS = {"source", "and", "or", "xor", "mux", "not", "delay"};
    private static final int[] NUMBERS = {2, 2, 2, 2, 3, 1, 2};
    /** Thirteen lines: no text has more. */
    private static final String MOST_LINES =
        "not 0;not 0;not 0;not 0;not 0;not 0;not 0;not 0;not 0;not 0;not 0;not 0;not 0";
    private static final String[] CIRCUITS = {"source 0 1", "source 256 255", "source 100 99;source 25 6",
        "and 0 15", "or 15 0", "xor 10 10", "mux 0 15 9", "not 12", "delay 15 60", "delay 0 1;delay 7 59",
        "source 9 9;and 0 0;or 0 1;xor 1 2;mux 0 1 2;not 4;delay 5 5", Benches.WHOLE_TEXT, MOST_LINES};

    private static final Checks checks = new Checks();

    public static void main(String[] args) {
        emptyAtFirst();
        eightyCharacters();
        tooEarly();
        nothingLeftOfAnEarlierText();
        nothingLeftOfARefusedCircuit();
        firstThatIsNotAllowed();
        wordsLetterByLetter();
        blanks();
        semicolons();
        numbersInTheirRanges();
        digitsBeyondTheRange();
        zerosInFront();
        linesAreNoFaults();
        faultsAtTheEnds();
        linesAhead();
        exactlySixteen();
        behindTheOthers();
        oneActAllOrNone();
        checks.end();
    }

    /** "There is a text of at most 80 characters, empty at first." "(the empty text does [end too early])" */
    private static void emptyAtFirst() {
        ShareStreams bench = new ShareStreams();
        checks.due("empty: length", bench.count(7), 0);
        checks.due("empty: the fault is its length", bench.readCircuit(), FAULT);
        checks.due("empty: clearText", bench.clearText(), 0);
        checks.due("empty: type", bench.type('s'), 1);
        checks.due("empty: clearText of one", bench.clearText(), 1);
        checks.due("empty again: length", bench.count(7), 0);
        checks.due("empty again: the fault", bench.readCircuit(), FAULT);
        checks.due("empty again: type", bench.type('?'), 1);
        checks.due("empty again: the fault of one", bench.readCircuit(), FAULT);
    }

    /** "type: FULL if it has 80 characters." */
    private static void eightyCharacters() {
        ShareStreams bench = new ShareStreams();
        for (int length = 1; length <= 80; length++) {
            checks.due("eighty: type", bench.type(Benches.WHOLE_TEXT.charAt(length - 1)), length);
        }
        checks.due("eighty: the 81st", bench.type('0'), FULL);
        checks.due("eighty: the 81st again", bench.type('?'), FULL);
        checks.due("eighty: length", bench.count(7), 80);
        checks.due("eighty: read", bench.readCircuit(), 8);
        checks.due("eighty: it stays", bench.count(7), 80);
        checks.due("eighty: clearText", bench.clearText(), 80);
        checks.due("eighty: room again", bench.type('n'), 1);
        checks.due("eighty: nothing of it is left", bench.readCircuit(), FAULT - 1);
        ShareStreams other = new ShareStreams();
        checks.type(other, Benches.WHOLE_TEXT.substring(0, 79));
        checks.due("seventy-nine: length", other.count(7), 79);
        checks.due("seventy-nine: too early", other.readCircuit(), FAULT - 79);
        checks.due("seventy-nine: the 80th", other.type('0'), 80);
        checks.due("seventy-nine: whole then", other.readCircuit(), 8);
    }

    /** "or the length of the text if it ends too early" */
    private static void tooEarly() {
        for (String circuit : CIRCUITS) {
            for (int length = 0; length <= circuit.length(); length++) {
                String front = circuit.substring(0, length);
                if (isWhole(front)) {
                    faultless(front);
                } else {
                    fault(front, length);
                }
            }
        }
    }

    /** "clearText: Empties the text": what stood behind the end of a shorter one is not read. */
    private static void nothingLeftOfAnEarlierText() {
        for (String circuit : CIRCUITS) {
            for (int length = 0; length < circuit.length(); length++) {
                ShareStreams bench = new ShareStreams();
                checks.type(bench, circuit);
                String front = circuit.substring(0, length);
                int answer = checks.read(bench, front);
                if (isWhole(front)) {
                    checks.due("cleared: '" + front + "' has no fault", answer > 0 || answer == UNKNOWN ? 1 : 0, 1);
                } else {
                    checks.due("cleared: '" + front + "'", answer, FAULT - length);
                }
            }
        }
        ShareStreams bench = new ShareStreams();
        checks.type(bench, "9999999999999");
        checks.due("cleared: digits behind the end", checks.read(bench, "source 1 1"), 1);
        checks.due("cleared: the seed as it stands", bench.line(0, 2), 1);
    }

    /** Lines of a text that was refused, and of the bench as it was, are none of the next text's lines. */
    private static void nothingLeftOfARefusedCircuit() {
        String[] last = {"and 15 15", "or 15 0", "xor 0 15", "mux 0 0 15", "not 15", "delay 15 9"};
        for (String line : last) {
            ShareStreams bench = new ShareStreams();
            checks.due("refused: " + line, checks.read(bench, "source 1 1;source 2 2;" + line), UNKNOWN);
            checks.due("refused: the text ahead of it", checks.read(bench, "source 1 1;source 2 2"), 2);
            checks.due("refused: a fault behind it", checks.read(bench, "not 0;" + line + ";"), FAULT - 7 - line.length());
            checks.due("refused: the first line alone", checks.read(bench, "not 0"), 3);
        }
        ShareStreams bench = Benches.withSources(12);
        bench.gate(1, 11, 11);
        bench.choose(12, 12, 12);
        bench.bestSeed(11, 13, 0);
        for (int line = 13; line > 0; line--) {
            bench.removeLast();
        }
        String text = MOST_LINES.substring(0, 6 * 11 - 1);
        checks.due("removed: what a best seed was sought for", checks.read(bench, text), 12);
    }

    /** Of the front of a circuit: whether all numbers of its last line have begun. */
    private static boolean isWhole(String front) {
        String[] words = front.substring(front.lastIndexOf(';') + 1).split(" ", -1);
        for (int word = 0; word < WORDS.length; word++) {
            if (WORDS[word].equals(words[0])) {
                return words.length == 1 + NUMBERS[word] && !words[words.length - 1].isEmpty();
            }
        }
        return false;
    }

    /** "The fault of the text is the index, from 0, of the first character that is not allowed at its place" */
    private static void firstThatIsNotAllowed() {
        char[] never = {'?', 'A', 'z', '-', '+', '.', ',', ':', '/', '\n', '\t', 0, 127, 128, 255, 256, 0x0660, 0xff10,
            0xd800, 65535};
        for (String circuit : CIRCUITS) {
            for (int place = 0; place < circuit.length(); place++) {
                for (char character : never) {
                    String front = circuit.substring(0, place) + character;
                    fault(front, place);
                    fault(front + circuit.substring(place + 1), place);
                }
            }
            for (char character : never) {
                if (circuit.length() < 80) {
                    fault(circuit + character, circuit.length());
                }
            }
        }
    }

    /** "(of a word: with which no word begins so)" */
    private static void wordsLetterByLetter() {
        for (char letter = 'a'; letter <= 'z'; letter++) {
            fault(String.valueOf(letter), "saoxmnd".indexOf(letter) < 0 ? 0 : 1);
            fault(letter + "?", "saoxmnd".indexOf(letter) < 0 ? 0 : 1);
            fault(String.valueOf((char) (letter - 32)), 0);
        }
        for (String word : WORDS) {
            for (int place = 1; place <= word.length(); place++) {
                String front = word.substring(0, place);
                for (char letter = 'a'; letter <= 'z'; letter++) {
                    boolean right = place < word.length() && word.charAt(place) == letter;
                    fault(front + letter, right ? place + 1 : place);
                }
                if (place < word.length()) {
                    fault(front + " ", place);
                    fault(front + "0", place);
                    fault(front + ";", place);
                    fault(front + Character.toUpperCase(word.charAt(place)), place);
                }
            }
        }
    }

    /** "with one blank between two words" */
    private static void blanks() {
        for (String circuit : CIRCUITS) {
            fault(" " + circuit, 0);
            for (int place = 0; place < circuit.length(); place++) {
                String front = circuit.substring(0, place);
                String back = circuit.substring(place + 1);
                if (circuit.charAt(place) == ' ') {
                    fault(front + "  " + back.substring(0, 1), place + 1);
                    fault(front + ";" + back, place);
                    fault(front + "_" + back, place);
                }
                if (circuit.charAt(place) == ';') {
                    fault(front + " ;", place);
                    fault(front + "; ", place + 1);
                }
            }
        }
        fault("source1 1", 6);
        fault("not0", 3);
        fault("not 0 ", 5);
        fault("not 0 0", 5);
        fault("and 0 0 0", 7);
        fault("mux 0 0 0 0", 9);
        fault("source 1 1 1", 10);
        fault("delay 0 1 1", 9);
    }

    /** "A circuit is one or more lines with ';' between two" */
    private static void semicolons() {
        fault(";", 0);
        fault(";not 0", 0);
        for (String circuit : CIRCUITS) {
            if (circuit.length() < 79) {
                fault(circuit + ";", circuit.length() + 1);
                fault(circuit + ";;", circuit.length() + 1);
            }
        }
        fault("not 0;0", 6);
        fault("not 0,not 0", 5);
        fault("not 0not 0", 5);
        fault("source 1;", 8);
        fault("source;", 6);
        fault("delay 0;not 0", 7);
    }

    /** The text ahead of a number, its least and its greatest value, and the text behind it. */
    private static final class Slot {
        private final String front;
        private final int least;
        private final int greatest;
        private final String behind;

        private Slot(String front, int least, int greatest, String behind) {
            this.front = front;
            this.least = least;
            this.greatest = greatest;
            this.behind = behind;
        }

        private void fault(String number, int place) {
            EdgesOfTextsTest.fault(front + number + behind, front.length() + place);
            EdgesOfTextsTest.fault(front + number, front.length() + place);
        }
    }

    private static List<Slot> slots() {
        List<Slot> slots = new ArrayList<>();
        slots.add(new Slot("source ", 0, 256, " 1"));
        slots.add(new Slot("source 0 ", 1, 255, ""));
        slots.add(new Slot("source 256 ", 1, 255, ";not 0"));
        String[] gates = {"and ", "or ", "xor "};
        for (String gate : gates) {
            slots.add(new Slot(gate, 0, 15, " 0"));
            slots.add(new Slot(gate + "15 ", 0, 15, ""));
        }
        slots.add(new Slot("mux ", 0, 15, " 0 0"));
        slots.add(new Slot("mux 15 ", 0, 15, " 0"));
        slots.add(new Slot("mux 0 15 ", 0, 15, ""));
        slots.add(new Slot("not ", 0, 15, ""));
        slots.add(new Slot("not ", 0, 15, ";not 15"));
        slots.add(new Slot("delay ", 0, 15, " 60"));
        slots.add(new Slot("delay 15 ", 1, 60, ""));
        return slots;
    }

    /** "p, the seed, d in their ranges, and a, b and c numbers from 0 to 15" */
    private static void numbersInTheirRanges() {
        for (Slot slot : slots()) {
            for (int number = slot.least; number <= slot.greatest; number++) {
                faultless(slot.front + number + slot.behind);
                fault(slot.front + number + "?", slot.front.length() + String.valueOf(number).length());
            }
            String[] none = {"-1", "+1", "a", ";", " ", "", "/", ":"};
            for (String number : none) {
                slot.fault(number, 0);
            }
        }
    }

    /** "a digit by which a number would be greater than its range is not allowed" */
    private static void digitsBeyondTheRange() {
        for (Slot slot : slots()) {
            for (int number = slot.greatest + 1; number <= 2570; number++) {
                slot.fault(String.valueOf(number), placeOfDigitTooMany(number, slot.greatest));
            }
            for (int digit = 0; digit <= 9; digit++) {
                slot.fault(slot.greatest + "" + digit, String.valueOf(slot.greatest).length());
            }
        }
    }

    private static int placeOfDigitTooMany(int number, int greatest) {
        String digits = String.valueOf(number);
        int place = 0;
        while (Integer.parseInt(digits.substring(0, place + 1)) <= greatest) {
            place++;
        }
        return place;
    }

    /**
     * "Numbers have no zero in front unless they are the single digit 0, and one whose range begins
     * at 1 does not begin with 0"
     */
    private static void zerosInFront() {
        for (Slot slot : slots()) {
            int place = slot.least == 0 ? 1 : 0;
            for (int digit = 0; digit <= 9; digit++) {
                slot.fault("0" + digit, place);
            }
            slot.fault("0" + slot.greatest, place);
            slot.fault("00" + slot.greatest, place);
            if (slot.least == 0) {
                faultless(slot.front + "0" + slot.behind);
            } else {
                slot.fault("0", 0);
            }
        }
    }

    /** "Whether a line is ahead is no matter of the fault." */
    private static void linesAreNoFaults() {
        String[] texts = {"not 0", "not 15", "and 15 15", "or 15 15", "xor 15 15", "mux 15 15 15", "delay 15 60"};
        for (String text : texts) {
            checks.due("no line ahead: " + text, checks.read(new ShareStreams(), text), UNKNOWN);
            checks.due("no line ahead, a fault behind: " + text, checks.read(new ShareStreams(), text + "!"),
                FAULT - text.length());
        }
    }

    /** The first, the last and the one behind the last of 80 places. */
    private static void faultsAtTheEnds() {
        fault("?" + Benches.WHOLE_TEXT.substring(1), 0);
        fault(Benches.WHOLE_TEXT.substring(0, 79) + "?", 79);
        fault(Benches.WHOLE_TEXT.substring(0, 78) + "10", 78);
        fault(Benches.WHOLE_TEXT.substring(0, 74) + ";mux 0", 80);
        fault(Benches.WHOLE_TEXT.substring(0, 74) + "0;not ", 74);
        fault(MOST_LINES + ";no", 80);
        fault(MOST_LINES + ";", 78);
    }

    /** "UNKNOWN if any of them is of a line that is not ahead of it" */
    private static void linesAhead() {
        String[] own = {"not #", "and # 0", "and 0 #", "or # 0", "or 0 #", "xor # 0", "xor 0 #", "mux # 0 0",
            "mux 0 # 0", "mux 0 0 #", "delay # 1"};
        for (String line : own) {
            for (int lines = 1; lines <= 14; lines++) {
                String of = lines + " lines, ";
                String itself = line.replace("#", String.valueOf(lines));
                String last = line.replace("#", String.valueOf(lines - 1));
                String next = line.replace("#", String.valueOf(lines + 1));
                String greatest = line.replace("#", "15");
                ahead(of + itself, lines, itself, UNKNOWN);
                ahead(of + next, lines, next, UNKNOWN);
                ahead(of + greatest, lines, greatest, UNKNOWN);
                ahead(of + last, lines, last, lines + 1);
                ahead(of + "second " + itself, lines, "source 0 1;" + itself, lines + 2);
                ahead(of + "second " + next, lines, "source 0 1;" + next, UNKNOWN);
                ahead(of + "first " + itself, lines, itself + ";source 0 1", UNKNOWN);
            }
        }
        ahead("a line of no line", 0, "source 1 1;source 2 2;and 0 1", 3);
        ahead("ticks and seeds are no lines", 1, "delay 0 60;source 256 255", 3);
        ahead("the last one only", 1, "not 0;not 1;not 2;not 4", UNKNOWN);
        ahead("the first one only", 1, "not 2;not 1;not 2;not 3", UNKNOWN);
    }

    private static void ahead(String name, int lines, String text, int due) {
        checks.due("ahead: " + name, checks.read(Benches.withSources(lines), text), due);
    }

    /** "FULL if there would be more than 16"; "how many lines there are then" */
    private static void exactlySixteen() {
        for (int lines = 1; lines <= 16; lines++) {
            ShareStreams bench = Benches.withSources(lines);
            checks.due("sixteen: " + lines + " and 13", checks.read(bench, MOST_LINES), lines <= 3 ? lines + 13 : FULL);
            checks.due("sixteen: then", bench.count(0), lines <= 3 ? lines + 13 : lines);
            for (int more = 1; more <= 4; more++) {
                String text = MOST_LINES.substring(0, 6 * more - 1);
                int due = lines + more <= 16 ? lines + more : FULL;
                checks.due("sixteen: " + lines + " and " + more, checks.read(Benches.withSources(lines), text), due);
            }
        }
        ShareStreams bench = Benches.withSources(3);
        checks.read(bench, MOST_LINES);
        checks.due("sixteen: one more", checks.read(bench, "not 0"), FULL);
        bench.removeLast();
        checks.due("sixteen: room again", bench.readCircuit(), 16);
        checks.due("sixteen: none again", bench.readCircuit(), FULL);
    }

    /** "Adds the lines of the text behind the others": made as the calls would make them. */
    private static void behindTheOthers() {
        ShareStreams read = Benches.withSources(3);
        String text = "source 256 255;and 3 0;or 1 2;xor 0 4;mux 1 2 3;not 7;delay 8 60;source 0 1";
        checks.due("behind: lines", checks.read(read, text), 11);
        ShareStreams made = Benches.withSources(3);
        made.source(256, 255);
        made.gate(1, 3, 0);
        made.gate(2, 1, 2);
        made.gate(3, 0, 4);
        made.choose(1, 2, 3);
        made.turn(7);
        made.delay(8, 60);
        made.source(0, 1);
        checks.same("behind: as by calls", Checks.told(read), Checks.told(made));
        ShareStreams again = new ShareStreams();
        checks.read(again, "source 9 8");
        checks.due("behind: the text stays", again.readCircuit(), 2);
        checks.due("behind: the text stays, once more", again.readCircuit(), 3);
        checks.due("behind: the same line", again.line(2, 2), 8);
        checks.due("behind: length of the text", again.count(7), 10);
    }

    /** "all of them, or none. This is one act." */
    private static void oneActAllOrNone() {
        ShareStreams bench = Benches.withSources(3);
        checks.read(bench, MOST_LINES);
        checks.due("one act: states", bench.count(6), 4);
        checks.due("one act: undo", bench.undo(), 3);
        checks.due("one act: all lines gone", bench.count(0), 3);
        checks.due("one act: again", bench.readCircuit(), 16);
        String[] none = {"source 1 1;source 2 2;source 3 3;not 7", "not 0;not 1;not", "not 0;not 1;not 1?"};
        for (String text : none) {
            ShareStreams other = Benches.withSources(3);
            checks.due("none: an error", checks.read(other, text) < 0 ? 1 : 0, 1);
            checks.due("none: lines", other.count(0), 3);
            checks.due("none: states", other.count(6), 3);
            checks.due("none: length of the text", other.count(7), text.length());
        }
    }

    private static void fault(String text, int place) {
        checks.due("fault of '" + text + "'", checks.read(new ShareStreams(), text), FAULT - place);
    }

    /** Lines that are not ahead are no faults, so the answer may be UNKNOWN. */
    private static void faultless(String text) {
        int answer = checks.read(new ShareStreams(), text);
        checks.due("'" + text + "' answered " + answer, answer > 0 || answer == UNKNOWN ? 1 : 0, 1);
    }
}
