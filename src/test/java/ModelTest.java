/** All promises: long mixed runs of calls, each answer compared with that of SlowBench. */
public final class ModelTest {
    private static final int RUNS = 300;
    private static final int CALLS = 512;
    private static final String[] TEXTS = {"source ", "and ", "or ", "xor ", "mux ", "not ", "delay ", ";", " ", "0",
        "1", "2", "5", "16", "60", "25", "256", "x", "source 128 1", "source 256 255", "and 0 1", "mux 0 1 2",
        "delay 1 60", "not 3", "xor 1 0", ";or 2 2"};

    private static final Checks checks = new Checks();

    private long state;
    private final ShareStreams bench = new ShareStreams();
    private final SlowBench slow = new SlowBench();

    private ModelTest(long state) {
        this.state = state;
    }

    public static void main(String[] args) {
        for (int run = 0; run < RUNS; run++) {
            new ModelTest(run * 7919L + 1).go(run);
        }
        checks.end();
    }

    private void go(int run) {
        int calls = 0;
        while (calls < CALLS) {
            int before = calls;
            calls += run % 4 == 3 && next(3) == 0 ? someText(run, CALLS - calls) : someCall(run, calls);
            if (calls == before) {
                throw new IllegalStateException("no call was made");
            }
        }
    }

    /** A number from 0 to bound - 1, always the same ones for the same run. */
    private int next(int bound) {
        state = state * 6364136223846793005L + 1442695040888963407L;
        return (int) ((state >>> 33) % bound);
    }

    /** Mostly within the range, often at its edges, now and then just or far out of it. */
    private int within(int least, int most) {
        switch (next(40)) {
            case 0:
                return least - 1;
            case 1:
                return most + 1;
            case 2:
                return next(2) == 0 ? Integer.MIN_VALUE : Integer.MAX_VALUE;
            case 3:
            case 4:
                return least;
            case 5:
            case 6:
                return most;
            default:
                return least + next(most - least + 1);
        }
    }

    private int aLine() {
        int lines = slow.count(0);
        return next(30) == 0 ? within(-1, 16) : next(3) == 0 ? lines - 1 : next(Math.max(1, lines));
    }

    private int someText(int run, int room) {
        int asked = 0;
        String text = next(6) == 0 ? "" : TEXTS[next(TEXTS.length)];
        for (int index = 0; index < text.length() && asked < room; index++, asked++) {
            char character = next(60) == 0 ? (char) next(65536) : text.charAt(index);
            checks.due(run + ": type", bench.type(character), slow.type(character));
        }
        if (asked == 0 && next(2) == 0) {
            checks.due(run + ": clearText", bench.clearText(), slow.clearText());
            return 1;
        }
        if (asked < room) {
            checks.due(run + ": readCircuit", bench.readCircuit(), slow.readCircuit());
            asked++;
        }
        return asked;
    }

    private int someCall(int run, int call) {
        String name = run + ", call " + call + ": ";
        int pick = next(run % 2 == 0 ? 24 : 40);
        if (pick < 10) {
            addition(name, pick);
        } else if (pick < 16) {
            change(name, pick);
        } else {
            question(name, next(8));
        }
        return 1;
    }

    private void addition(String name, int pick) {
        int one = aLine();
        int other = aLine();
        switch (pick) {
            case 0:
            case 1:
            case 2:
                int share = within(0, 256);
                int seed = within(1, 255);
                checks.due(name + "source", bench.source(share, seed), slow.source(share, seed));
                break;
            case 3:
            case 4:
            case 5:
                int kind = within(1, 3);
                checks.due(name + "gate", bench.gate(kind, one, other), slow.gate(kind, one, other));
                break;
            case 6:
                int choice = aLine();
                checks.due(name + "choose", bench.choose(one, other, choice), slow.choose(one, other, choice));
                break;
            case 7:
                checks.due(name + "turn", bench.turn(one), slow.turn(one));
                break;
            default:
                int ticks = within(1, 60);
                checks.due(name + "delay", bench.delay(one, ticks), slow.delay(one, ticks));
                break;
        }
    }

    private void change(String name, int pick) {
        switch (pick) {
            case 10:
                int line = aLine();
                int share = next(4) == 0 ? slow.line(line, 1) : within(0, 256);
                int seed = next(4) == 0 ? slow.line(line, 2) : within(1, 255);
                checks.due(name + "reseed", bench.reseed(line, share, seed), slow.reseed(line, share, seed));
                break;
            case 11:
                checks.due(name + "removeLast", bench.removeLast(), slow.removeLast());
                break;
            case 12:
                int length = next(10) == 0 ? slow.count(1) : within(1, 1000);
                checks.due(name + "setLength", bench.setLength(length), slow.setLength(length));
                break;
            case 13:
                checks.due(name + "undo", bench.undo(), slow.undo());
                break;
            case 14:
                if (next(3) == 0) {
                    checks.due(name + "keep", bench.keep(), slow.keep());
                } else {
                    checks.due(name + "restore", bench.restore(), slow.restore());
                }
                break;
            default:
                checks.due(name + "readCircuit", bench.readCircuit(), slow.readCircuit());
                break;
        }
    }

    private void question(String name, int pick) {
        int line = aLine();
        int other = aLine();
        switch (pick) {
            case 0:
                int what = within(0, 9);
                checks.due(name + "line " + what, bench.line(line, what), slow.line(line, what));
                break;
            case 1:
                int tick = within(0, 999);
                checks.due(name + "bit", bench.bit(line, tick), slow.bit(line, tick));
                break;
            case 2:
                checks.due(name + "overlap", bench.overlap(line, other), slow.overlap(line, other));
                break;
            case 3:
                int length = within(1, 1000);
                checks.due(name + "errorAt", bench.errorAt(line, length), slow.errorAt(line, length));
                break;
            case 4:
                int bound = next(2) == 0 ? within(0, 65536) : next(3000);
                checks.due(name + "settles", bench.settles(line, bound), slow.settles(line, bound));
                break;
            case 5:
                int which = within(0, 1);
                if (next(6) == 0) {
                    checks.due(name + "bestSeed", bench.bestSeed(other, line, which), slow.bestSeed(other, line, which));
                }
                break;
            case 6:
                checks.due(name + "unlike", bench.unlike(line), slow.unlike(line));
                break;
            default:
                int asked = within(0, 7);
                checks.due(name + "count " + asked, bench.count(asked), slow.count(asked));
                break;
        }
    }
}
