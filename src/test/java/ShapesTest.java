/** On each of the 36 boards: numbers, neighbours and banks of each field, and none beyond the edges. */
public final class ShapesTest extends Sentences {
    private ShapesTest() {
        super("ShapesTest");
    }

    public static void main(String[] args) {
        ShapesTest test = new ShapesTest();
        for (int rows = 1; rows <= 6; rows++) {
            for (int columns = 1; columns <= 6; columns++) {
                test.neighbours(rows, columns);
                test.banks(rows, columns);
                test.beside(rows, columns);
            }
        }
        test.sixNeighbours();
        test.noneRoundTheSides();
        test.end();
    }

    private void neighbours(int rows, int columns) {
        sentence("Terms: NEIGHBOURS (as far as they are there), " + rows + " rows, " + columns + " columns:");
        for (int f = 0; f < rows * columns; f++) {
            for (int g = 0; g < f; g++) {
                int colour = 1 + (f + g) % 2;
                TwoBanks x = made(rows, columns);
                yes("set", x.set(f, colour, 1) && x.set(g, colour, 1));
                boolean one = areNeighbours(f / columns, f % columns, g / columns, g % columns);
                due("groups of " + f + " and " + g, one ? 1 : 2, x.count(5 + colour));
                due("group at " + f, one ? g : f, x.group(f));
                due("group at " + g, g, x.group(g));
                due("stones at " + f, one ? 2 : 1, x.look(f, 0));
                yes("the other colour", x.set(g, 3 - colour, 1));
                due("group at " + f + " alone", f, x.group(f));
                due("group at " + g + " alone", g, x.group(g));
            }
        }
    }

    private void banks(int rows, int columns) {
        sentence("Terms: Row 0 is at the north bank .. column C - 1 at the east bank, " + rows + " rows, " + columns
                + " columns:");
        for (int f = 0; f < rows * columns; f++) {
            int want = f / columns == 0 ? 1 : 0;
            want += f / columns == rows - 1 ? 2 : 0;
            want += f % columns == 0 ? 4 : 0;
            want += f % columns == columns - 1 ? 8 : 0;
            for (int colour = 1; colour <= 2; colour++) {
                TwoBanks x = made(rows, columns);
                yes("set", x.set(f, colour, 1));
                due("banks of " + f, want, x.look(f, 1));
                int joined = (colour == 1 ? rows : columns) == 1 ? colour : 0;
                due("joined by " + f, joined, x.joined());
            }
        }
    }

    private void beside(int rows, int columns) {
        sentence("11: 2 empty FIELDS beside it, " + rows + " rows, " + columns + " columns:");
        for (int f = 0; f < rows * columns; f++) {
            TwoBanks x = made(rows, columns);
            yes("set", x.set(f, 1 + f % 2, 1));
            int want = 0;
            for (int g = 0; g < rows * columns; g++) {
                want += areNeighbours(f / columns, f % columns, g / columns, g % columns) ? 1 : 0;
            }
            due("beside " + f, want, x.look(f, 2));
        }
    }

    private void sixNeighbours() {
        sentence("Terms: FIELDS with six NEIGHBOURS:");
        for (int f : new int[] {8, 15, 22}) {
            TwoBanks x = made(6, 6);
            yes("set", x.set(f, 1, 1));
            due("beside " + f, 6, x.look(f, 2));
            for (int g : new int[] {f - 1, f + 1, f - 6, f + 6, f - 5, f + 5}) {
                yes("set", x.set(g, 2, 1));
            }
            due("beside " + f, 0, x.look(f, 2));
            for (int g : new int[] {f - 7, f + 7}) {
                due("no neighbour", 0, x.at(g));
            }
        }
    }

    /** Numbers one apart, or a row apart, of fields that lie at opposite sides. */
    private void noneRoundTheSides() {
        sentence("Terms: NEIGHBOURS (none round the sides):");
        TwoBanks x = told(1, "..N", "N..", "...");
        due("one number apart", 2, x.count(6));
        x = told(1, "...", "..N", "N..");
        due("one number apart", 2, x.count(6));
        x = told(1, "N...", "...N", "....");
        due("the slant of column 0", 2, x.count(6));
        x = told(1, "N.....", ".....N");
        due("far ends", 2, x.count(6));
        x = told(1, "..W", "W..");
        due("his do not join round the side", 0, x.joined());
        x = told(1, "N.", "..", ".N");
        due("hers do not join", 0, x.joined());
    }

    private static boolean areNeighbours(int r, int c, int s, int d) {
        boolean sameRow = r == s && Math.abs(c - d) == 1;
        boolean sameColumn = c == d && Math.abs(r - s) == 1;
        boolean slant = s == r - 1 && d == c + 1 || s == r + 1 && d == c - 1;
        return sameRow || sameColumn || slant;
    }
}
