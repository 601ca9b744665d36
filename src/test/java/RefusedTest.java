import java.util.ArrayList;
import java.util.List;

/**
 * "A call that is refused (NONE, false) changes nothing", and a question changes nothing whatever it answers: behind
 * each such call, in each state, all that can be asked and done next answers as it would have without the call.
 */
public final class RefusedTest {
    private static final int[] SIDES = {3, 2, 0, 7, -1, Integer.MIN_VALUE, Integer.MAX_VALUE};
    private static final int[] FIELDS = {-1, 0, 1, 3, 4, 8, 9, 36, 64, Integer.MIN_VALUE, Integer.MAX_VALUE};
    private static final int[] COLOURS = {0, 1, 2, -1, 3, Integer.MAX_VALUE};
    private static final int[] PLACES = {0, 1, -1, 9, Integer.MIN_VALUE, Integer.MAX_VALUE};

    /** A call, with a boolean answer as 1 or 0. */
    private interface Call {
        int on(TwoBanks x);
    }

    private record Named(String name, boolean act, Call call) {
        boolean refused(int answer) {
            return name.startsWith("lay") ? answer == TwoBanks.NONE : answer == 0;
        }
    }

    private record State(String name, Call[] calls) {
        TwoBanks make() {
            TwoBanks x = new TwoBanks();
            for (Call call : calls) {
                call.on(x);
            }
            return x;
        }
    }

    private final Check check = new Check("RefusedTest");
    private final List<Named> calls = new ArrayList<>();
    private final List<State> states = new ArrayList<>();
    private final List<Call[]> sequels = new ArrayList<>();
    private int refusals;

    public static void main(String[] args) {
        RefusedTest test = new RefusedTest();
        test.listActs();
        test.listQuestions();
        test.listLinks();
        test.listStates();
        test.listSequels();
        for (State state : test.states) {
            test.changesNothing(state);
        }
        test.check.due("many calls were refused: " + test.refusals, true, test.refusals > 2000);
        test.check.end();
    }

    private void changesNothing(State state) {
        String[] want = new String[sequels.size()];
        for (int i = 0; i < want.length; i++) {
            want[i] = seen(state.make(), sequels.get(i));
        }
        String told = foughtOver(state.make());
        for (Named named : calls) {
            if (named.act() && !named.refused(named.call().on(state.make()))) {
                continue;
            }
            refusals++;
            String what = state.name() + ": behind " + named.name();
            for (int i = 0; i < want.length; i++) {
                TwoBanks x = state.make();
                named.call().on(x);
                check.due(what + ", sequel " + i, true, want[i].equals(seen(x, sequels.get(i))));
            }
            TwoBanks x = state.make();
            named.call().on(x);
            check.due(what + ", fights", true, told.equals(foughtOver(x)));
        }
    }

    /** What the calls answer, and how the board looks then. */
    private static String seen(TwoBanks x, Call... sequel) {
        StringBuilder out = new StringBuilder();
        for (Call call : sequel) {
            out.append(call.on(x)).append(' ');
        }
        for (int f = 0; f <= x.count(0) * x.count(1); f++) {
            out.append(x.at(f));
        }
        for (int what = 0; what <= 7; what++) {
            out.append(' ').append(x.count(what));
        }
        for (int i = 0; i <= x.count(9); i++) {
            out.append(' ').append(x.way(i));
        }
        return out.append(' ').append(x.joined()).toString();
    }

    private static String foughtOver(TwoBanks x) {
        StringBuilder out = new StringBuilder();
        int fields = x.count(0) * x.count(1);
        out.append(x.winner(1)).append(x.winner(2)).append(' ').append(x.fillings()).append(' ').append(x.count(8));
        for (int f = 0; f < Math.min(9, fields); f++) {
            out.append(' ').append(x.dead(f)).append(x.group(f)).append(x.look(f, 2));
            out.append(' ').append(x.first(1, f)).append(' ').append(x.first(2, f));
            out.append(' ').append(x.link(1, 0, f)).append(' ').append(x.half(2, 1, f, 0));
        }
        return out.toString();
    }

    private void act(String name, Call call) {
        calls.add(new Named(name, true, call));
    }

    private void question(String name, Call call) {
        calls.add(new Named(name, false, call));
    }

    private static int bit(boolean answer) {
        return answer ? 1 : 0;
    }

    private void listActs() {
        for (int r : SIDES) {
            for (int c : SIDES) {
                act("board " + r + " " + c, x -> bit(x.board(r, c)));
            }
        }
        for (int f : FIELDS) {
            act("lay " + f, x -> x.lay(f));
            for (int colour : COLOURS) {
                for (int who : COLOURS) {
                    act("set " + f + " " + colour + " " + who, x -> bit(x.set(f, colour, who)));
                }
            }
        }
        act("swap", x -> bit(x.swap()));
        act("undo", x -> bit(x.undo()));
        act("redo", x -> bit(x.redo()));
    }

    private void listQuestions() {
        for (int f : FIELDS) {
            question("at " + f, x -> x.at(f));
            question("group " + f, x -> x.group(f));
            question("look " + f + " 1", x -> x.look(f, 1));
            question("look " + f + " 3", x -> x.look(f, 3));
            question("dead " + f, x -> x.dead(f));
            question("count " + f, x -> x.count(f));
            question("way " + f, x -> x.way(f));
        }
        for (int who : COLOURS) {
            question("winner " + who, x -> x.winner(who));
            for (int i : PLACES) {
                question("first " + who + " " + i, x -> x.first(who, i));
            }
        }
        question("joined", TwoBanks::joined);
        question("fillings", TwoBanks::fillings);
    }

    private void listLinks() {
        int[][] pairs = {{0, 1}, {1, 0}, {4, 4}, {0, 0}, {3, 8}, {0, 9}, {-1, 1}, {2, 36}, {64, 65}};
        for (int[] pair : pairs) {
            for (int colour : COLOURS) {
                String name = colour + " " + pair[0] + " " + pair[1];
                question("link " + name, x -> x.link(colour, pair[0], pair[1]));
                question("half " + name, x -> x.half(colour, pair[0], pair[1], 0));
                question("half " + name + " -1", x -> x.half(colour, pair[0], pair[1], -1));
            }
        }
    }

    private void state(String name, Call... made) {
        states.add(new State(name, made));
    }

    private static Call board(int rows, int columns) {
        return x -> bit(x.board(rows, columns));
    }

    private static Call set(int f, int colour, int who) {
        return x -> bit(x.set(f, colour, who));
    }

    private static Call lay(int f) {
        return x -> x.lay(f);
    }

    private static Call swap() {
        return x -> bit(x.swap());
    }

    private static Call undo() {
        return x -> bit(x.undo());
    }

    private static Call redo() {
        return x -> bit(x.redo());
    }

    private static Call change() {
        return x -> {
            x.change();
            return 0;
        };
    }

    private void listStates() {
        state("new");
        state("one stone", lay(1));
        state("one stone and one undone", lay(1), lay(3), undo());
        state("a stone undone", lay(1), undo());
        state("swapped", lay(1), swap(), lay(4));
        state("the swap undone", lay(1), swap(), lay(4), undo(), undo());
        state("two stones, two undone", lay(0), lay(8), lay(1), lay(7), undo(), undo());
        state("set", set(0, 1, 2), set(8, 2, 2), lay(3), lay(4), undo());
        state("north has joined", lay(0), lay(1), lay(3), lay(4), lay(6));
        state("west has joined", board(2, 3), set(0, 2, 2), set(1, 2, 2), lay(2));
        state("changed over", lay(1), lay(2), change());
        state("large", board(6, 6), lay(1), swap(), lay(8), undo());
        state("eleven are empty", board(3, 4), set(0, 1, 1), lay(4), undo());
        state("smallest", board(1, 1));
        state("smallest, full", board(1, 1), lay(0));
        state("full", board(2, 2), lay(0), lay(1), lay(3), lay(2));
    }

    private void sequel(Call... made) {
        sequels.add(made);
    }

    private void listSequels() {
        sequel();
        sequel(undo());
        sequel(undo(), undo());
        sequel(undo(), undo(), undo(), undo(), undo());
        sequel(redo());
        sequel(redo(), redo(), redo());
        sequel(swap());
        sequel(undo(), swap(), undo());
        sequel(lay(0), redo());
        sequel(lay(5), lay(4), swap());
        sequel(change(), lay(5), undo());
        sequel(set(0, 0, 2), undo(), lay(0));
        sequel(board(3, 3), lay(1), swap());
    }
}
