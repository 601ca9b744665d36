/** What tests of the document's sentences have in common: the sentence at hand, and boards told row by row. */
abstract class Sentences {
    static final int NONE = TwoBanks.NONE;
    static final int LEAST = Integer.MIN_VALUE;
    static final int MOST = Integer.MAX_VALUE;
    static final int[] NO_COLOURS = {0, 3, -1, -2, 4, 5, 257, 258, LEAST, LEAST + 1, MOST};
    static final int[] NO_PLACES = {-1, -2, 36, 37, 64, 65, 1024, LEAST, LEAST + 1, MOST};

    private final Check check;
    private String sentence = "";

    Sentences(String test) {
        check = new Check(test);
    }

    final void end() {
        check.end();
    }

    final void sentence(String text) {
        sentence = text;
    }

    final void due(String what, long want, long got) {
        check.due(sentence + " " + what, want, got);
    }

    final void yes(String what, boolean got) {
        check.due(sentence + " " + what, true, got);
    }

    final void no(String what, boolean got) {
        check.due(sentence + " " + what, false, got);
    }

    final TwoBanks made(int rows, int columns) {
        TwoBanks x = new TwoBanks();
        yes("board " + rows + " " + columns, x.board(rows, columns));
        return x;
    }

    /** A board told row by row: '.' empty, 'N', 'W'; who is to lay. */
    final TwoBanks told(int who, String... rows) {
        TwoBanks x = new TwoBanks();
        tell(x, who, rows);
        return x;
    }

    final void tell(TwoBanks x, int who, String... rows) {
        int columns = rows[0].length();
        yes("board", x.board(rows.length, columns));
        yes("set", x.set(0, 0, who));
        for (int f = 0; f < rows.length * columns; f++) {
            int colour = colourIn(rows, f);
            if (colour > 0) {
                yes("set " + f, x.set(f, colour, who));
            }
        }
    }

    final void shows(TwoBanks x, String what, String... rows) {
        due(what + " rows", rows.length, x.count(0));
        due(what + " columns", rows[0].length(), x.count(1));
        for (int f = 0; f < rows.length * rows[0].length(); f++) {
            due(what + " at " + f, colourIn(rows, f), x.at(f));
        }
    }

    final void stands(TwoBanks x, String what, int done, int undone, int toLay) {
        due(what + " done", done, x.count(4));
        due(what + " undone", undone, x.count(5));
        due(what + " to lay", toLay, x.count(3));
    }

    final void lays(TwoBanks x, int... fields) {
        for (int f : fields) {
            due("lay " + f, 1, x.lay(f));
        }
    }

    /** Numbers that are no field of a board with so many: the nearest, and such as are one once cut to few bits. */
    static int[] noFields(int fields) {
        return new int[] {
            fields, -1, fields + 1, -2, fields + 63, 64, -64, -63, 1 << 8, 1 << 16, 1 << 30, LEAST, LEAST + 1,
            MOST - 1, MOST
        };
    }

    private static int colourIn(String[] rows, int f) {
        int columns = rows[0].length();
        return ".NW".indexOf(rows[f / columns].charAt(f % columns));
    }
}
