/**
 * Promises 16 to 23: what is told depends on the state alone, not on what was asked or how the state
 * was reached. Each question is the first one to a bench, and then the last one to benches that came
 * to the same state on other ways, with questions in between.
 */
public final class FirstQuestionTest {
    private static final Checks checks = new Checks();

    public static void main(String[] args) {
        Benches.Call[] questions = questions();
        Benches.Start[] ways = {FirstQuestionTest::asked, FirstQuestionTest::undone, FirstQuestionTest::restored,
            FirstQuestionTest::reseeded, FirstQuestionTest::replaced, FirstQuestionTest::read};
        for (int question = 0; question < questions.length; question++) {
            int due = questions[question].on(direct());
            for (int way = 0; way < ways.length; way++) {
                int answer = questions[question].on(ways[way].bench());
                checks.due("question " + question + " on way " + way, answer, due);
            }
        }
        literally();
        checks.end();
    }

    /** The state of all: six lines, the length 700. */
    private static ShareStreams direct() {
        ShareStreams bench = new ShareStreams();
        bench.setLength(700);
        bench.source(100, 50);
        bench.source(200, 60);
        bench.gate(3, 0, 1);
        bench.delay(2, 60);
        bench.choose(3, 1, 2);
        bench.turn(4);
        return bench;
    }

    private static Benches.Call[] questions() {
        return new Benches.Call[] {bench -> bench.line(5, 4), bench -> bench.line(5, 5), bench -> bench.line(5, 6),
            bench -> bench.line(5, 7), bench -> bench.line(5, 8), bench -> bench.line(5, 9), bench -> bench.bit(5, 999),
            bench -> bench.bit(3, 60), bench -> bench.overlap(5, 0), bench -> bench.overlap(0, 5),
            bench -> bench.overlap(4, 4), bench -> bench.errorAt(5, 1000), bench -> bench.errorAt(5, 1),
            bench -> bench.settles(5, 9000), bench -> bench.bestSeed(0, 5, 0), bench -> bench.bestSeed(1, 5, 1),
            bench -> bench.bestSeed(1, 0, 1), bench -> bench.bestSeed(0, 1, 1), bench -> bench.unlike(5),
            bench -> bench.count(2), bench -> bench.count(3), bench -> bench.count(4), bench -> bench.count(5)};
    }

    private static void ask(ShareStreams bench) {
        for (Benches.Call question : questions()) {
            question.on(bench);
        }
    }

    private static ShareStreams asked() {
        ShareStreams bench = direct();
        ask(bench);
        return bench;
    }

    private static ShareStreams undone() {
        ShareStreams bench = direct();
        bench.source(1, 1);
        bench.removeLast();
        bench.reseed(0, 1, 1);
        bench.setLength(1);
        ask(bench);
        for (int undone = 0; undone < 4; undone++) {
            bench.undo();
        }
        return bench;
    }

    private static ShareStreams restored() {
        ShareStreams bench = direct();
        bench.keep();
        bench.removeLast();
        bench.removeLast();
        bench.turn(0);
        bench.gate(1, 4, 4);
        bench.reseed(1, 7, 7);
        bench.setLength(30);
        ask(bench);
        bench.restore();
        return bench;
    }

    private static ShareStreams reseeded() {
        ShareStreams bench = direct();
        bench.reseed(0, 1, 1);
        ask(bench);
        bench.reseed(1, 2, 2);
        ask(bench);
        bench.setLength(2);
        ask(bench);
        bench.reseed(0, 100, 50);
        bench.reseed(1, 200, 60);
        bench.setLength(700);
        return bench;
    }

    /** Longer and deeper ahead of it, with lines of other kinds at each place. */
    private static ShareStreams replaced() {
        ShareStreams bench = Benches.withSources(1);
        for (int line = 1; line < 16; line++) {
            bench.turn(line - 1);
        }
        bench.setLength(1000);
        ask(bench);
        bench.bestSeed(0, 15, 0);
        bench.count(3);
        for (int line = 15; line >= 0; line--) {
            bench.removeLast();
        }
        bench.setLength(700);
        bench.source(100, 50);
        bench.source(200, 60);
        bench.gate(3, 0, 1);
        bench.delay(2, 60);
        bench.choose(3, 1, 2);
        bench.turn(4);
        return bench;
    }

    private static ShareStreams read() {
        ShareStreams bench = new ShareStreams();
        bench.keep();
        bench.setLength(700);
        checks.read(bench, "source 100 50;source 200 60;xor 0 1;delay 2 60;mux 3 1 2;not 4");
        return bench;
    }

    /** Some of these answers, worked out by hand. */
    private static void literally() {
        checks.due("the deepest", direct().count(5), 4);
        checks.due("how deep", direct().line(5, 8), 4);
        checks.due("sources", direct().line(5, 9), 2);
        // 25600 and 51200: the difference is 76800 - 2 * 20000; (36800 * 36800 + 51200 * 28736) / 65536
        // is 43114, and the turned one has the rest.
        checks.due("exact share", direct().line(5, 6), 65536 - 43114);
        ShareStreams bench = Benches.withSources(2);
        bench.reseed(0, 0, 1);
        bench.reseed(1, 256, 1);
        bench.delay(1, 1);
        bench.setLength(2);
        checks.due("overlap with a line ahead of it, first", bench.overlap(2, 1), 0);
        checks.due("overlap with itself", bench.overlap(2, 2), 16384);
    }
}
