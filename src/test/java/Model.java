import java.util.ArrayDeque;
import java.util.ArrayList;
import java.util.Arrays;
import java.util.Deque;
import java.util.HashMap;
import java.util.List;
import java.util.Map;
import java.util.Set;
import java.util.TreeSet;

/** The document put as plainly and slowly as can be: what TwoBanks has to answer. */
final class Model {
    static final int NONE = -1;

    private record Shot(int[][] cell, int toLay) {
    }

    /** What a full board is asked. */
    private interface Goal {
        boolean holds(int[][] full);
    }

    private int rows = 3;
    private int columns = 3;
    private int[][] cell = new int[3][3];
    private int toLay = 1;
    private boolean untouched = true;
    private final Deque<Shot> past = new ArrayDeque<>();
    private final Deque<Shot> future = new ArrayDeque<>();

    boolean board(int r, int c) {
        if (r < 1 || r > 6 || c < 1 || c > 6) {
            return false;
        }
        rows = r;
        columns = c;
        cell = new int[r][c];
        toLay = 1;
        untouched = true;
        nothingDone();
        return true;
    }

    boolean set(int f, int colour, int who) {
        if (!field(f) || colour < 0 || colour > 2 || who < 1 || who > 2) {
            return false;
        }
        cell[f / columns][f % columns] = colour;
        toLay = who;
        untouched = false;
        nothingDone();
        return true;
    }

    int lay(int f) {
        if (at(f) != 0 || joined() != 0) {
            return NONE;
        }
        remember();
        cell[f / columns][f % columns] = toLay;
        toLay = 3 - toLay;
        return joined() != 0 ? 2 : 1;
    }

    boolean swap() {
        if (rows != columns || past.size() != 1 || !untouched || joined() != 0) {
            return false;
        }
        remember();
        int[][] next = new int[rows][columns];
        for (int r = 0; r < rows; r++) {
            for (int c = 0; c < columns; c++) {
                if (cell[r][c] == 1) {
                    next[c][r] = 2;
                }
            }
        }
        cell = next;
        toLay = 1;
        return true;
    }

    boolean undo() {
        if (past.isEmpty()) {
            return false;
        }
        future.push(shot());
        show(past.pop());
        return true;
    }

    boolean redo() {
        if (future.isEmpty()) {
            return false;
        }
        past.push(shot());
        show(future.pop());
        return true;
    }

    void change() {
        int[][] next = new int[columns][rows];
        for (int r = 0; r < rows; r++) {
            for (int c = 0; c < columns; c++) {
                next[c][r] = cell[r][c] == 0 ? 0 : 3 - cell[r][c];
            }
        }
        cell = next;
        rows = next.length;
        columns = next[0].length;
        toLay = 3 - toLay;
        untouched = false;
        nothingDone();
    }

    int at(int f) {
        return field(f) ? cell[f / columns][f % columns] : NONE;
    }

    int group(int f) {
        return at(f) <= 0 ? NONE : groupOf(cell, f).iterator().next();
    }

    int look(int f, int what) {
        if (at(f) <= 0) {
            return NONE;
        }
        Set<Integer> stones = groupOf(cell, f);
        Set<Integer> free = new TreeSet<>();
        boolean[] bank = new boolean[4];
        for (int g : stones) {
            bank[0] |= g / columns == 0;
            bank[1] |= g / columns == rows - 1;
            bank[2] |= g % columns == 0;
            bank[3] |= g % columns == columns - 1;
            for (int h : neighbours(g)) {
                if (at(h) == 0) {
                    free.add(h);
                }
            }
        }
        int banks = (bank[0] ? 1 : 0) + (bank[1] ? 2 : 0) + (bank[2] ? 4 : 0) + (bank[3] ? 8 : 0);
        return what == 0 ? stones.size() : what == 1 ? banks : what == 2 ? free.size() : NONE;
    }

    int joined() {
        return joined(cell);
    }

    int way(int i) {
        List<Integer> way = way();
        return i >= 0 && i < way.size() ? way.get(i) : NONE;
    }

    int winner(int who) {
        if (who < 1 || who > 2 || empties().size() > 10) {
            return NONE;
        }
        return comesTo(1, who == 1, full -> joined(full) == 1) ? 1 : 2;
    }

    int first(int who, int i) {
        List<Integer> firsts = firsts(who);
        return i >= 0 && i < firsts.size() ? firsts.get(i) : NONE;
    }

    List<Integer> firsts(int who) {
        List<Integer> out = new ArrayList<>();
        if (who < 1 || who > 2 || empties().size() > 10) {
            return out;
        }
        for (int f : empties()) {
            cell[f / columns][f % columns] = who;
            if (winner(3 - who) == who) {
                out.add(f);
            }
            cell[f / columns][f % columns] = 0;
        }
        return out;
    }

    int fillings() {
        if (empties().size() > 10) {
            return NONE;
        }
        int[] count = new int[1];
        eachFilling(copy(cell), 0, full -> {
            count[0] += joined(full) == 1 ? 1 : 0;
            return true;
        });
        return count[0];
    }

    int dead(int f) {
        if (at(f) != 0 || empties().size() > 10) {
            return NONE;
        }
        boolean never = eachFilling(copy(cell), 0, full -> {
            full[f / columns][f % columns] = 1;
            int one = joined(full);
            full[f / columns][f % columns] = 2;
            return joined(full) == one;
        });
        return never ? 1 : 0;
    }

    int link(int colour, int a, int b) {
        if (colour < 1 || colour > 2 || !field(a) || !field(b) || a == b) {
            return NONE;
        }
        if (at(a) == 3 - colour || at(b) == 3 - colour || empties().size() > 10) {
            return NONE;
        }
        Goal linked = full -> full[a / columns][a % columns] == colour && groupOf(full, a).contains(b);
        if (comesTo(colour, false, linked)) {
            return 2;
        }
        return comesTo(colour, true, linked) ? 1 : 0;
    }

    int half(int colour, int a, int b, int i) {
        List<Integer> halves = halves(colour, a, b);
        return i >= 0 && i < halves.size() ? halves.get(i) : NONE;
    }

    List<Integer> halves(int colour, int a, int b) {
        List<Integer> out = new ArrayList<>();
        if (link(colour, a, b) != 1) {
            return out;
        }
        for (int f : empties()) {
            cell[f / columns][f % columns] = colour;
            if (link(colour, a, b) == 2) {
                out.add(f);
            }
            cell[f / columns][f % columns] = 0;
        }
        return out;
    }

    int count(int what) {
        return switch (what) {
            case 0 -> rows;
            case 1 -> columns;
            case 2 -> empties().size();
            case 3 -> toLay;
            case 4 -> past.size();
            case 5 -> future.size();
            case 6 -> groups(1);
            case 7 -> groups(2);
            case 8 -> deads();
            case 9 -> way().size();
            default -> NONE;
        };
    }

    private void nothingDone() {
        past.clear();
        future.clear();
    }

    private Shot shot() {
        return new Shot(copy(cell), toLay);
    }

    private void show(Shot shot) {
        cell = copy(shot.cell());
        toLay = shot.toLay();
    }

    private void remember() {
        past.push(shot());
        future.clear();
    }

    private static int[][] copy(int[][] from) {
        int[][] to = new int[from.length][];
        for (int r = 0; r < from.length; r++) {
            to[r] = from[r].clone();
        }
        return to;
    }

    private boolean field(int f) {
        return f >= 0 && f < rows * columns;
    }

    private List<Integer> empties() {
        List<Integer> out = new ArrayList<>();
        for (int f = 0; f < rows * columns; f++) {
            if (at(f) == 0) {
                out.add(f);
            }
        }
        return out;
    }

    private List<Integer> neighbours(int f) {
        int[][] steps = {{0, -1}, {0, 1}, {-1, 0}, {1, 0}, {-1, 1}, {1, -1}};
        List<Integer> out = new ArrayList<>();
        for (int[] step : steps) {
            int r = f / columns + step[0];
            int c = f % columns + step[1];
            if (r >= 0 && r < rows && c >= 0 && c < columns) {
                out.add(columns * r + c);
            }
        }
        return out;
    }

    private Set<Integer> groupOf(int[][] on, int f) {
        Set<Integer> out = new TreeSet<>();
        Deque<Integer> open = new ArrayDeque<>();
        open.push(f);
        while (!open.isEmpty()) {
            int g = open.pop();
            if (out.add(g)) {
                for (int h : neighbours(g)) {
                    if (on[h / columns][h % columns] == on[f / columns][f % columns]) {
                        open.push(h);
                    }
                }
            }
        }
        return out;
    }

    private int joined(int[][] on) {
        for (int f = 0; f < rows * columns; f++) {
            int colour = on[f / columns][f % columns];
            boolean start = colour == 1 ? f / columns == 0 : f % columns == 0;
            if (colour != 0 && start) {
                for (int g : groupOf(on, f)) {
                    if (colour == 1 ? g / columns == rows - 1 : g % columns == columns - 1) {
                        return colour;
                    }
                }
            }
        }
        return 0;
    }

    private int groups(int colour) {
        Set<Integer> lowest = new TreeSet<>();
        for (int f = 0; f < rows * columns; f++) {
            if (at(f) == colour) {
                lowest.add(group(f));
            }
        }
        return lowest.size();
    }

    private int deads() {
        int n = 0;
        for (int f : empties()) {
            if (dead(f) == NONE) {
                return NONE;
            }
            n += dead(f);
        }
        return n;
    }

    /** The shortest ways are tried in order, the least fields first: the first that arrives is the one. */
    private List<Integer> way() {
        int who = joined();
        for (int most = 1; who != 0 && most <= rows * columns; most++) {
            List<Integer> way = new ArrayList<>();
            for (int f = 0; f < rows * columns; f++) {
                boolean start = who == 1 ? f / columns == 0 : f % columns == 0;
                if (start && at(f) == who && walk(who, f, most, way)) {
                    return way;
                }
            }
        }
        return new ArrayList<>();
    }

    private boolean walk(int who, int f, int most, List<Integer> way) {
        way.add(f);
        if (who == 1 ? f / columns == rows - 1 : f % columns == columns - 1) {
            return true;
        }
        List<Integer> next = neighbours(f);
        next.sort(null);
        for (int g : next) {
            if (way.size() < most && at(g) == who && !way.contains(g) && walk(who, g, most, way)) {
                return true;
            }
        }
        way.remove(way.size() - 1);
        return false;
    }

    private boolean comesTo(int maker, boolean makerLays, Goal goal) {
        return comesTo(maker, makerLays, goal, copy(cell), new HashMap<>());
    }

    /** Both lay in turn till the board is full, every line of it. */
    private boolean comesTo(int maker, boolean makerLays, Goal goal, int[][] on, Map<String, Boolean> known) {
        String key = Arrays.deepToString(on) + makerLays;
        Boolean seen = known.get(key);
        if (seen != null) {
            return seen;
        }
        boolean full = true;
        boolean some = false;
        boolean every = true;
        for (int f = 0; f < rows * columns; f++) {
            if (on[f / columns][f % columns] == 0) {
                full = false;
                on[f / columns][f % columns] = makerLays ? maker : 3 - maker;
                boolean won = comesTo(maker, !makerLays, goal, on, known);
                on[f / columns][f % columns] = 0;
                some |= won;
                every &= won;
            }
        }
        boolean out = full ? goal.holds(on) : makerLays ? some : every;
        known.put(key, out);
        return out;
    }

    private boolean eachFilling(int[][] on, int from, Goal goal) {
        for (int f = from; f < rows * columns; f++) {
            if (on[f / columns][f % columns] == 0) {
                boolean all = true;
                for (int colour = 1; colour <= 2; colour++) {
                    on[f / columns][f % columns] = colour;
                    all &= eachFilling(on, f + 1, goal);
                }
                on[f / columns][f % columns] = 0;
                return all;
            }
        }
        return goal.holds(copy(on));
    }
}
