import java.util.List;
import java.util.Random;

/** Runs of calls on a TwoBanks and on the model, with the same seeds each time: all answers are to be alike. */
public final class ModelRunsTest {
    private static final int[] STRANGE = {
        -1, Integer.MIN_VALUE, Integer.MAX_VALUE, -2, 36, 37, 63, 64, 100, 1 << 20, -64, Integer.MIN_VALUE + 1
    };

    private final Check check = new Check("ModelRunsTest");
    private final Random random = new Random(20261118L);
    private TwoBanks real;
    private Model model;
    private String run;

    public static void main(String[] args) {
        ModelRunsTest test = new ModelRunsTest();
        for (int i = 0; i < 300; i++) {
            test.mixedRun("mixed run " + i);
        }
        for (int i = 0; i < 60; i++) {
            test.playRun("play run " + i);
        }
        for (int i = 0; i < 250; i++) {
            test.position("position " + i, 7);
        }
        for (int i = 0; i < 12; i++) {
            test.position("wide position " + i, 10);
        }
        test.check.end();
    }

    private void begin(String name) {
        real = new TwoBanks();
        model = new Model();
        run = name;
    }

    private int pick(int n) {
        return random.nextInt(n);
    }

    private int some(int from, int to) {
        return pick(12) == 0 ? STRANGE[pick(STRANGE.length)] : from + pick(to - from + 1);
    }

    private int someField() {
        return some(0, Math.max(0, model.count(0) * model.count(1)));
    }

    private void mixedRun(String name) {
        begin(name);
        int low = pick(2) == 0 ? 1 : 2;
        for (int call = 0; call < 120; call++) {
            act(low);
            compareState();
        }
    }

    private void act(int low) {
        switch (pick(14)) {
            case 0, 1, 2 -> set(someField(), some(0, 2), some(1, 2));
            case 3, 4, 5, 6, 7 -> lay(someField());
            case 8 -> check.due(run + " swap", model.swap(), real.swap());
            case 9, 10 -> check.due(run + " undo", model.undo(), real.undo());
            case 11, 12 -> check.due(run + " redo", model.redo(), real.redo());
            default -> rare(low);
        }
    }

    private void rare(int low) {
        if (pick(3) == 0) {
            int r = some(low, 6);
            int c = pick(2) == 0 ? r : some(low, 6);
            check.due(run + " board " + r + " " + c, model.board(r, c), real.board(r, c));
        } else if (pick(3) == 0) {
            model.change();
            real.change();
        }
    }

    private void set(int f, int colour, int who) {
        String call = run + " set " + f + " " + colour + " " + who;
        check.due(call, model.set(f, colour, who), real.set(f, colour, who));
    }

    private void lay(int f) {
        check.due(run + " lay " + f, model.lay(f), real.lay(f));
    }

    /** A whole play, then all back and forth again. */
    private void playRun(String name) {
        begin(name);
        int side = 1 + pick(6);
        check.due(run + " board", model.board(side, side), real.board(side, side));
        boolean swaps = pick(2) == 0;
        for (int call = 0; call < 150 && model.joined() == 0; call++) {
            lay(pick(side * side));
            if (swaps && pick(3) == 0) {
                check.due(run + " swap", model.swap(), real.swap());
            }
        }
        compareState();
        while (model.undo()) {
            check.due(run + " undo", true, real.undo());
            compareState();
        }
        check.due(run + " undo", false, real.undo());
        while (model.redo()) {
            check.due(run + " redo", true, real.redo());
            compareState();
        }
        check.due(run + " redo", false, real.redo());
    }

    private void compareState() {
        int fields = model.count(0) * model.count(1);
        for (int f = -1; f <= fields; f++) {
            check.due(run + " at " + f, model.at(f), real.at(f));
            check.due(run + " group " + f, model.group(f), real.group(f));
            for (int what = -1; what <= 3; what++) {
                check.due(run + " look " + f + " " + what, model.look(f, what), real.look(f, what));
            }
        }
        check.due(run + " joined", model.joined(), real.joined());
        for (int i = -1; i <= model.count(9); i++) {
            check.due(run + " way " + i, model.way(i), real.way(i));
        }
        for (int what = -1; what <= 10; what++) {
            if (what != 8) {
                check.due(run + " count " + what, model.count(what), real.count(what));
            }
        }
    }

    /** A board told by stones, with at most so many empty fields (now and then one more than can be told). */
    private void position(String name, int mostEmpty) {
        begin(name);
        int rows = 1 + pick(6);
        int columns = 1 + pick(6);
        check.due(run + " board", model.board(rows, columns), real.board(rows, columns));
        int empty = mostEmpty == 10 ? 10 + pick(5) / 4 : pick(mostEmpty + 1);
        while (model.count(2) > empty) {
            set(pick(rows * columns), 1 + pick(2), 1 + pick(2));
        }
        compareState();
        compareFights(mostEmpty == 10 ? 5 : 30);
        real.change();
        model.change();
        compareFights(3);
        set(pick(rows * columns), pick(3), 1 + pick(2));
        compareFights(3);
    }

    private void compareFights(int links) {
        int fields = model.count(0) * model.count(1);
        for (int who = -1; who <= 3; who++) {
            check.due(run + " winner " + who, model.winner(who), real.winner(who));
            List<Integer> firsts = model.firsts(who);
            for (int i = -1; i <= firsts.size() + 1; i++) {
                check.due(run + " first " + who + " " + i, ith(firsts, i), real.first(who, i));
            }
        }
        check.due(run + " fillings", model.fillings(), real.fillings());
        check.due(run + " count 8", model.count(8), real.count(8));
        for (int f = -1; f <= fields; f++) {
            check.due(run + " dead " + f, model.dead(f), real.dead(f));
        }
        for (int k = 0; k < links; k++) {
            compareLink(some(1, 2), someField(), someField());
        }
    }

    private void compareLink(int colour, int a, int b) {
        String call = colour + " " + a + " " + b;
        check.due(run + " link " + call, model.link(colour, a, b), real.link(colour, a, b));
        List<Integer> halves = model.halves(colour, a, b);
        for (int i = -1; i <= halves.size() + 1; i++) {
            check.due(run + " half " + call + " " + i, ith(halves, i), real.half(colour, a, b, i));
        }
    }

    private static int ith(List<Integer> fields, int i) {
        return i >= 0 && i < fields.size() ? fields.get(i) : Model.NONE;
    }
}
