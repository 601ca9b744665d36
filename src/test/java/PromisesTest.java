/** For each promise of the document: ordinary inputs, the edges that it names, and wrong inputs. */
public final class PromisesTest extends Sentences {
    private static final int[] WRONG_FIELDS = {-1, 9, 10, 36, 64, -64, Integer.MIN_VALUE, Integer.MAX_VALUE};
    private static final int[] WRONG_SIDES = {0, 7, -1, 8, 64, Integer.MIN_VALUE, Integer.MAX_VALUE};
    private static final int[] WRONG_COLOURS = {0, 3, -1, 4, Integer.MIN_VALUE, Integer.MAX_VALUE};
    private static final int[] WRONG_PLACES = {-1, -2, 36, 64, Integer.MIN_VALUE, Integer.MAX_VALUE};

    private TwoBanks x;

    private PromisesTest() {
        super("PromisesTest");
    }

    public static void main(String[] args) {
        PromisesTest test = new PromisesTest();
        test.newObject();
        test.board();
        test.set();
        test.setForgetsDeeds();
        test.lay();
        test.layWrong();
        test.swap();
        test.swapRefused();
        test.swapAgain();
        test.undo();
        test.redo();
        test.longestPlay();
        test.change();
        test.at();
        test.group();
        test.look();
        test.joined();
        test.way();
        test.wayAmongMany();
        test.winner();
        test.first();
        test.fillings();
        test.dead();
        test.link();
        test.linkWrong();
        test.half();
        test.count();
        test.askedInTurn();
        test.likeStonesOnOtherBoards();
        test.end();
    }

    private void begin(String promise) {
        sentence("Promise " + promise + ":");
        x = new TwoBanks();
    }

    private void tell(int who, String... rows) {
        tell(x, who, rows);
    }

    private void shows(String what, String... rows) {
        shows(x, what, rows);
    }

    private void done(String what, int done, int undone, int toLay) {
        stands(x, what, done, undone, toLay);
    }

    private void wayIs(int... fields) {
        for (int i = 0; i < fields.length; i++) {
            due("way " + i, fields[i], x.way(i));
        }
        due("way behind the last", NONE, x.way(fields.length));
        due("fields of the way", fields.length, x.count(9));
    }

    private void firstsAre(int who, int... fields) {
        for (int i = 0; i < fields.length; i++) {
            due("first " + who + " " + i, fields[i], x.first(who, i));
        }
        due("first behind the last", NONE, x.first(who, fields.length));
        for (int i : WRONG_PLACES) {
            due("first " + who + " " + i, NONE, x.first(who, i));
        }
    }

    private void halvesAre(int colour, int a, int b, int... fields) {
        for (int turn = 0; turn < 2; turn++) {
            int from = turn == 0 ? a : b;
            int to = turn == 0 ? b : a;
            for (int i = 0; i < fields.length; i++) {
                due("half " + from + " " + to + " " + i, fields[i], x.half(colour, from, to, i));
            }
            due("half behind the last", NONE, x.half(colour, from, to, fields.length));
            for (int i : WRONG_PLACES) {
                due("half " + from + " " + to + " " + i, NONE, x.half(colour, from, to, i));
            }
        }
    }

    private void linkIs(int want, int colour, int a, int b) {
        due("link " + colour + " " + a + " " + b, want, x.link(colour, a, b));
        due("link " + colour + " " + b + " " + a, want, x.link(colour, b, a));
    }

    private void newObject() {
        begin("1");
        shows("new", "...", "...", "...");
        done("new", 0, 0, 1);
        due("empty", 9, x.count(2));
        due("joined", 0, x.joined());
        no("undo", x.undo());
        no("redo", x.redo());
        due("lay", 1, x.lay(4));
        yes("swap", x.swap());
    }

    private void board() {
        begin("2");
        for (int r = 1; r <= 6; r++) {
            for (int c = 1; c <= 6; c++) {
                due("lay", 1, Math.min(1, x.lay(x.count(2) - 1)));
                yes("board " + r + " " + c, x.board(r, c));
                due("rows", r, x.count(0));
                due("columns", c, x.count(1));
                due("empty", r * c, x.count(2));
                due("last field", 0, x.at(r * c - 1));
                due("behind the last field", NONE, x.at(r * c));
                done("made", 0, 0, 1);
                no("undo", x.undo());
            }
        }
        yes("board", x.board(2, 3));
        due("lay", 1, x.lay(0));
        due("lay", 1, x.lay(4));
        yes("undo", x.undo());
        for (int side : WRONG_SIDES) {
            no("board " + side + " 3", x.board(side, 3));
            no("board 3 " + side, x.board(3, side));
            no("board " + side + " " + side, x.board(side, side));
        }
        shows("refused", "N..", "...");
        done("refused", 1, 1, 2);
    }

    private void set() {
        begin("3");
        yes("north", x.set(0, 1, 2));
        yes("west", x.set(8, 2, 2));
        due("to lay", 2, x.count(3));
        yes("other colour", x.set(0, 2, 1));
        due("to lay", 1, x.count(3));
        yes("empty", x.set(8, 0, 1));
        yes("empty again", x.set(8, 0, 2));
        shows("set", "W..", "...", "...");
        due("to lay", 2, x.count(3));
        for (int f : WRONG_FIELDS) {
            no("set " + f, x.set(f, 1, 1));
        }
        for (int colour : WRONG_COLOURS) {
            if (colour != 0) {
                no("colour " + colour, x.set(1, colour, 1));
            }
            no("who " + colour, x.set(1, 1, colour));
        }
        shows("refused", "W..", "...", "...");
        due("to lay", 2, x.count(3));
        due("lay of who was told", 1, x.lay(1));
        due("his stone", 2, x.at(1));
    }

    private void setForgetsDeeds() {
        begin("3");
        due("lay", 1, x.lay(0));
        due("lay", 1, x.lay(1));
        yes("undo", x.undo());
        no("refused", x.set(9, 1, 1));
        no("refused", x.set(1, 3, 1));
        no("refused", x.set(1, 1, 3));
        done("refused", 1, 1, 2);
        yes("set what is there", x.set(0, 1, 2));
        done("set", 0, 0, 2);
        no("undo", x.undo());
        no("redo", x.redo());
        due("stone", 1, x.at(0));
    }

    private void lay() {
        begin("4");
        due("north", 1, x.lay(1));
        due("her stone", 1, x.at(1));
        due("to lay", 2, x.count(3));
        due("west", 1, x.lay(0));
        due("his stone", 2, x.at(0));
        due("to lay", 1, x.count(3));
        due("north", 1, x.lay(4));
        due("west", 1, x.lay(3));
        due("north joins", 2, x.lay(7));
        due("joined", 1, x.joined());
        done("joined", 5, 0, 2);
        due("behind the end", NONE, x.lay(8));
        tell(2, "N.N", "WW.", "NN.");
        due("west joins", 2, x.lay(5));
        due("joined", 2, x.joined());
        tell(2, "N..", "N..", "N..");
        due("set and joined", NONE, x.lay(8));
        yes("taken away", x.set(3, 0, 2));
        due("none has joined", 1, x.lay(8));
        yes("board", x.board(1, 6));
        due("one row", 2, x.lay(5));
        yes("board", x.board(6, 1));
        due("one column", 1, x.lay(5));
        due("one column", 2, x.lay(0));
        due("west", 2, x.joined());
    }

    private void layWrong() {
        begin("4");
        due("lay", 1, x.lay(0));
        due("lay", 1, x.lay(8));
        yes("undo", x.undo());
        for (int f : WRONG_FIELDS) {
            due("lay " + f, NONE, x.lay(f));
        }
        due("not empty", NONE, x.lay(0));
        shows("refused", "N..", "...", "...");
        done("refused", 1, 1, 2);
        yes("redo", x.redo());
        due("not empty", NONE, x.lay(8));
        due("stone", 2, x.at(8));
    }

    private void swap() {
        begin("5");
        for (int f = 0; f < 9; f++) {
            yes("board", x.board(3, 3));
            no("ahead of the first stone", x.swap());
            due("lay", 1, x.lay(f));
            yes("swap " + f, x.swap());
            int turned = 3 * (f % 3) + f / 3;
            due("empty", 8, x.count(2));
            due("stone of " + f, 2, x.at(turned));
            done("swapped", 2, 0, 1);
            no("twice", x.swap());
            due("north", 1, x.lay(turned == 0 ? 1 : 0));
            due("her stone", 1, x.at(turned == 0 ? 1 : 0));
            no("behind another", x.swap());
        }
        yes("board", x.board(6, 6));
        due("lay", 1, x.lay(29));
        yes("swap", x.swap());
        due("turned", 2, x.at(34));
        due("left", 0, x.at(29));
    }

    private void swapRefused() {
        begin("5");
        yes("board", x.board(2, 3));
        due("lay", 1, x.lay(0));
        no("unlike sides", x.swap());
        yes("board", x.board(1, 1));
        due("lay", 2, x.lay(0));
        no("joined", x.swap());
        yes("board", x.board(3, 3));
        due("lay", 1, x.lay(1));
        due("lay", 1, x.lay(2));
        no("two stones", x.swap());
        shows("refused", ".NW", "...", "...");
        done("refused", 2, 0, 1);
        yes("board", x.board(3, 3));
        yes("set", x.set(0, 0, 1));
        due("lay", 1, x.lay(1));
        no("set ahead", x.swap());
        yes("board", x.board(3, 3));
        due("lay", 1, x.lay(1));
        yes("set", x.set(0, 0, 2));
        no("set behind", x.swap());
        yes("board", x.board(3, 3));
        x.change();
        x.change();
        due("lay", 1, x.lay(1));
        no("changed over ahead", x.swap());
        yes("board", x.board(3, 3));
        due("lay", 1, x.lay(1));
        x.change();
        no("changed over behind", x.swap());
        no("no board", x.board(3, 0));
        no("changed over still", x.swap());
    }

    private void swapAgain() {
        begin("5");
        no("refused", x.set(0, 0, 0));
        due("lay", 1, x.lay(1));
        yes("behind a set that was refused", x.swap());
        yes("undo", x.undo());
        yes("swap again", x.swap());
        done("swapped", 2, 0, 1);
        yes("board", x.board(3, 3));
        due("lay", 1, x.lay(1));
        due("lay", 1, x.lay(2));
        yes("undo", x.undo());
        yes("the second undone", x.swap());
        no("nothing to do again", x.redo());
        yes("undo", x.undo());
        yes("undo", x.undo());
        no("the first undone", x.swap());
        done("refused", 0, 2, 1);
        yes("set", x.set(5, 1, 1));
        yes("board", x.board(3, 3));
        due("lay", 1, x.lay(5));
        yes("a new board", x.swap());
        due("stone", 2, x.at(7));
    }

    private void undo() {
        begin("6");
        no("nothing was done", x.undo());
        due("lay", 1, x.lay(3));
        yes("swap", x.swap());
        due("lay", 1, x.lay(4));
        due("lay", 1, x.lay(2));
        done("done", 4, 0, 1);
        yes("west's", x.undo());
        shows("undone", ".W.", ".N.", "...");
        done("undone", 3, 1, 2);
        yes("north's", x.undo());
        done("undone", 2, 2, 1);
        yes("the swap", x.undo());
        shows("undone", "...", "N..", "...");
        done("undone", 1, 3, 2);
        yes("the first", x.undo());
        shows("undone", "...", "...", "...");
        done("undone", 0, 4, 1);
        no("nothing left", x.undo());
        done("refused", 0, 4, 1);
        tell(2, "N.N", "WW.", "NN.");
        no("what was set", x.undo());
        due("lay", 2, x.lay(5));
        yes("the last", x.undo());
        due("joined", 0, x.joined());
        done("undone", 0, 1, 2);
        x.change();
        no("changed over", x.undo());
    }

    private void redo() {
        begin("7");
        no("nothing was undone", x.redo());
        due("lay", 1, x.lay(3));
        no("nothing was undone", x.redo());
        yes("swap", x.swap());
        due("lay", 1, x.lay(4));
        while (x.undo()) {
            due("joined", 0, x.joined());
        }
        yes("the first", x.redo());
        shows("again", "...", "N..", "...");
        done("again", 1, 2, 2);
        yes("the swap", x.redo());
        shows("again", ".W.", "...", "...");
        done("again", 2, 1, 1);
        yes("north's", x.redo());
        shows("again", ".W.", ".N.", "...");
        done("again", 3, 0, 2);
        no("nothing left", x.redo());
        yes("undo", x.undo());
        due("a stone elsewhere", 1, x.lay(8));
        no("behind another stone", x.redo());
        done("another", 3, 0, 2);
        yes("undo", x.undo());
        yes("undo", x.undo());
        due("a stone for the swap", 1, x.lay(0));
        no("behind it", x.redo());
        yes("undo", x.undo());
        x.change();
        no("changed over", x.redo());
        due("lay", 1, x.lay(8));
        yes("undo", x.undo());
        yes("board", x.board(3, 3));
        no("a new board", x.redo());
    }

    /** 36 stones and a swap: more can't be done; the last stone joins. */
    private void longestPlay() {
        begin("4 to 7");
        String[] full = {"NNNNNN", "NWNNNN", "NWWNNN", "NWWWWW", "NWWWWW", "NWWWWW"};
        yes("board", x.board(6, 6));
        due("lay", 1, x.lay(7));
        yes("swap", x.swap());
        int[] next = {0, 8};
        for (int deed = 3; deed < 37; deed++) {
            int turn = 1 - deed % 2;
            char colour = "NW".charAt(turn);
            while (full[next[turn] / 6].charAt(next[turn] % 6) != colour) {
                next[turn]++;
            }
            due("lay " + next[turn], 1, x.lay(next[turn]));
            next[turn]++;
        }
        due("the last", 2, x.lay(30));
        shows("full", full);
        done("full", 37, 0, 2);
        wayIs(0, 6, 12, 18, 24, 30);
        for (int deed = 37; deed > 0; deed--) {
            yes("undo " + deed, x.undo());
            due("joined", 0, x.joined());
        }
        done("undone", 0, 37, 1);
        due("empty", 36, x.count(2));
        for (int deed = 1; deed <= 37; deed++) {
            yes("redo " + deed, x.redo());
        }
        no("redo", x.redo());
        shows("full again", full);
        done("full again", 37, 0, 2);
    }

    private void change() {
        begin("8");
        tell(2, "NW.", "..N");
        x.change();
        shows("changed", "W.", "N.", ".W");
        done("changed", 0, 0, 1);
        x.change();
        shows("back", "NW.", "..N");
        due("to lay", 2, x.count(3));
        due("lay", 1, x.lay(2));
        due("lay", 1, x.lay(4));
        yes("undo", x.undo());
        done("laid", 1, 1, 1);
        x.change();
        done("changed", 0, 0, 2);
        no("undo", x.undo());
        no("redo", x.redo());
        yes("board", x.board(1, 6));
        due("lay", 2, x.lay(3));
        x.change();
        due("rows", 6, x.count(0));
        due("columns", 1, x.count(1));
        due("west's", 2, x.at(3));
        due("joined", 2, x.joined());
        due("to lay", 1, x.count(3));
    }

    private void at() {
        begin("9");
        tell(1, "NW.", "W.N", ".NW");
        int[] want = {1, 2, 0, 2, 0, 1, 0, 1, 2};
        for (int f = 0; f < 9; f++) {
            due("at " + f, want[f], x.at(f));
        }
        for (int f : WRONG_FIELDS) {
            due("at " + f, NONE, x.at(f));
        }
        yes("board", x.board(6, 6));
        due("last", 0, x.at(35));
        due("behind it", NONE, x.at(36));
    }

    private void group() {
        begin("10");
        tell(1, "N.NN", "WW.N", "NW.W", "N..W");
        int[] want = {0, NONE, 2, 2, 4, 4, NONE, 2, 8, 4, NONE, 11, 8, NONE, NONE, 11};
        for (int f = 0; f < want.length; f++) {
            due("group " + f, want[f], x.group(f));
        }
        due("no field", NONE, x.group(16));
        due("no field", NONE, x.group(-1));
        tell(1, "..N", ".N.", "N..");
        due("slanting", 2, x.group(6));
        tell(1, "N..", ".N.", "..N");
        due("not the other slant", 4, x.group(4));
        due("nor here", 8, x.group(8));
        tell(1, "..N", "N..", "...");
        due("not round the side", 3, x.group(3));
        for (int f : WRONG_FIELDS) {
            due("group " + f, NONE, x.group(f));
        }
    }

    private void look() {
        begin("11");
        tell(1, "N.NN", "WW.N", "NW.W", "N..W");
        due("stones", 3, x.look(3, 0));
        due("stones", 3, x.look(9, 0));
        due("banks", 9, x.look(3, 1));
        due("banks", 4, x.look(4, 1));
        due("banks", 6, x.look(12, 1));
        due("banks", 5, x.look(0, 1));
        due("banks", 10, x.look(15, 1));
        due("empty beside", 3, x.look(7, 2));
        due("empty beside", 4, x.look(5, 2));
        due("empty beside", 1, x.look(8, 2));
        due("empty beside", 1, x.look(0, 2));
        due("empty beside", 2, x.look(11, 2));
        for (int what : new int[] {-1, 3, 4, 64, Integer.MIN_VALUE, Integer.MAX_VALUE}) {
            due("look 0 " + what, NONE, x.look(0, what));
        }
        for (int what = 0; what < 3; what++) {
            due("no stone", NONE, x.look(1, what));
            due("no field", NONE, x.look(16, what));
            due("no field", NONE, x.look(-1, what));
        }
        tell(1, "W");
        due("all banks", 15, x.look(0, 1));
        due("nothing beside", 0, x.look(0, 2));
        tell(1, "...", ".N.", "...");
        due("six neighbours", 6, x.look(4, 2));
        due("no banks", 0, x.look(4, 1));
    }

    private void joined() {
        begin("12");
        due("empty", 0, x.joined());
        tell(1, "..N", ".N.", "N..");
        due("north", 1, x.joined());
        tell(1, "..W", ".W.", "W..");
        due("west", 2, x.joined());
        tell(1, "N..", ".N.", "..N");
        due("not the other slant", 0, x.joined());
        tell(1, "NNN", "WWN", "WWW");
        due("west under her", 2, x.joined());
        tell(1, "NNN", "N.N", "W.W");
        due("not to the south bank", 0, x.joined());
        tell(1, "WWW", "...", "...");
        due("along the bank", 2, x.joined());
        tell(1, "NNN", "...", "...");
        due("one bank alone", 0, x.joined());
        yes("set away", x.set(0, 0, 1));
        due("still none", 0, x.joined());
    }

    private void way() {
        begin("13");
        due("nobody", NONE, x.way(0));
        due("nobody", 0, x.count(9));
        tell(1, ".NN", ".N.", "NN.");
        wayIs(1, 4, 6);
        for (int i : WRONG_PLACES) {
            due("way " + i, NONE, x.way(i));
        }
        tell(1, "..W", "WWW", "W..");
        wayIs(3, 4, 2);
        tell(1, "..W", ".WW", "W..");
        wayIs(6, 4, 2);
        tell(1, "N");
        wayIs(0);
        tell(1, "W");
        wayIs(0);
        tell(1, ".NN.");
        wayIs(1);
        tell(1, "W", "W", ".");
        wayIs(0);
        yes("taken away", x.set(0, 0, 1));
        wayIs(1);
        yes("taken away", x.set(1, 0, 1));
        wayIs();
    }

    private void wayAmongMany() {
        begin("13");
        tell(1, "N....N", "NN...N", ".N...N");
        wayIs(5, 11, 17);
        tell(1, "N....N", "NN..N.", ".N..N.", ".N..N.");
        wayIs(5, 10, 16, 22);
        tell(1, "NNNNN.", "....N.", ".NNN..", "N.....", "NNNNN.", "....N.");
        wayIs(4, 10, 15, 14, 13, 18, 24, 25, 26, 27, 28, 34);
        x.change();
        wayIs(24, 25, 20, 14, 8, 3, 4, 10, 16, 22, 28, 29);
        tell(1, "NNN", "NNN", "NNN", "NNN");
        wayIs(0, 3, 6, 9);
        tell(1, "WWW", "WWW", "WWW", "WWW");
        wayIs(0, 1, 2);
    }

    private void winner() {
        begin("14");
        due("the first", 1, x.winner(1));
        due("the first", 2, x.winner(2));
        due("laid", 1, x.lay(4));
        due("the middle", 1, x.winner(2));
        tell(1, "..N", "W..", "..W");
        due("to lay", 1, x.winner(1));
        due("to lay", 2, x.winner(2));
        tell(1, "N..", "N..", "N..");
        due("joined", 1, x.winner(1));
        due("joined", 1, x.winner(2));
        tell(1, "NWN", "NWW", "WNN");
        due("full", 2, x.winner(1));
        due("full", 2, x.winner(2));
        for (int who : WRONG_COLOURS) {
            due("winner " + who, NONE, x.winner(who));
        }
        tell(1, "WWNN.", "..WNN", "...NN", "WWW..", "WW...");
        due("eleven", NONE, x.winner(1));
        due("eleven", NONE, x.winner(2));
        yes("set", x.set(24, 1, 1));
        due("ten", 1, x.winner(1));
        due("ten", 1, x.winner(2));
        yes("set", x.set(24, 0, 1));
        yes("set", x.set(18, 2, 1));
        due("ten", 1, x.winner(1));
        due("ten", 2, x.winner(2));
        yes("board", x.board(2, 5));
        due("the nearer banks", 1, x.winner(2));
        yes("board", x.board(5, 2));
        due("the nearer banks", 2, x.winner(1));
        yes("board", x.board(6, 6));
        due("thirty-six", NONE, x.winner(1));
    }

    private void first() {
        begin("15");
        firstsAre(1, 2, 3, 4, 5, 6);
        firstsAre(2, 1, 2, 4, 6, 7);
        tell(1, "..N", "W..", "..W");
        firstsAre(1, 4, 7);
        firstsAre(2, 4, 7);
        tell(1, "N..", "N..", "N..");
        firstsAre(1, 1, 2, 4, 5, 7, 8);
        firstsAre(2);
        tell(1, "NWN", "NWW", "WNN");
        firstsAre(1);
        firstsAre(2);
        for (int who : WRONG_COLOURS) {
            due("first " + who, NONE, x.first(who, 0));
        }
        yes("board", x.board(3, 4));
        due("twelve", NONE, x.first(1, 0));
        yes("set", x.set(0, 1, 1));
        due("eleven", NONE, x.first(1, 0));
        yes("set", x.set(1, 1, 1));
        due("ten", 2, x.first(1, 0));
    }

    private void fillings() {
        begin("16");
        due("three by three", 256, x.fillings());
        tell(1, "N..", "N..", "N..");
        due("joined", 64, x.fillings());
        tell(1, "WWW", "...", "...");
        due("west joined", 0, x.fillings());
        tell(1, "N.", ".N");
        due("two empty", 3, x.fillings());
        tell(1, "N");
        due("full", 1, x.fillings());
        tell(1, "W");
        due("full", 0, x.fillings());
        yes("board", x.board(1, 6));
        due("one row", 63, x.fillings());
        yes("board", x.board(6, 1));
        due("one column", 1, x.fillings());
        yes("board", x.board(2, 5));
        due("ten", 880, x.fillings());
        yes("board", x.board(5, 2));
        due("ten", 144, x.fillings());
        tell(1, "NW.", "...", "...", "...");
        due("ten", 375, x.fillings());
        yes("set", x.set(0, 0, 1));
        due("eleven", NONE, x.fillings());
    }

    private void dead() {
        begin("17");
        for (int f = 0; f < 9; f++) {
            due("dead " + f, 0, x.dead(f));
        }
        tell(1, "N..", "N.W", "N..");
        for (int f : new int[] {1, 2, 4, 7, 8}) {
            due("dead " + f, 1, x.dead(f));
        }
        due("not empty", NONE, x.dead(0));
        due("not empty", NONE, x.dead(5));
        for (int f : WRONG_FIELDS) {
            due("dead " + f, NONE, x.dead(f));
        }
        tell(1, ".N.", "W..", "...");
        due("in the corner", 1, x.dead(0));
        due("open", 0, x.dead(2));
        due("open", 0, x.dead(5));
        due("open", 0, x.dead(6));
        due("dead fields", 1, x.count(8));
        yes("board", x.board(3, 4));
        due("twelve", NONE, x.dead(0));
        yes("set", x.set(0, 1, 1));
        due("eleven", NONE, x.dead(1));
        due("eleven", NONE, x.count(8));
        yes("set", x.set(1, 2, 1));
        due("ten", 0, x.dead(2));
        due("ten", 0, x.count(8));
    }

    private void link() {
        begin("18");
        tell(1, "N.N", "..N", "W.W");
        linkIs(1, 1, 0, 2);
        linkIs(2, 1, 2, 5);
        linkIs(1, 2, 6, 8);
        linkIs(1, 1, 0, 4);
        linkIs(0, 1, 0, 7);
        linkIs(1, 2, 6, 3);
        tell(1, ".N.W", "....", ".N.W");
        linkIs(1, 1, 1, 9);
        linkIs(1, 2, 3, 11);
        tell(1, "N.", ".N");
        linkIs(2, 1, 0, 3);
        linkIs(1, 1, 0, 1);
        linkIs(0, 1, 1, 2);
        linkIs(0, 2, 1, 2);
        tell(1, "NWN", "WWW", "NWN");
        linkIs(0, 1, 0, 2);
        linkIs(2, 2, 1, 7);
        yes("board", x.board(1, 2));
        linkIs(0, 1, 0, 1);
    }

    private void linkWrong() {
        begin("18");
        tell(1, "N.W", "...", "W.N");
        for (int f : WRONG_FIELDS) {
            due("a " + f, NONE, x.link(1, f, 1));
            due("b " + f, NONE, x.link(1, 1, f));
            due("both " + f, NONE, x.link(1, f, f));
        }
        for (int colour : WRONG_COLOURS) {
            due("colour " + colour, NONE, x.link(colour, 3, 4));
        }
        due("one and the same", NONE, x.link(1, 0, 0));
        due("one and the same", NONE, x.link(1, 1, 1));
        linkIs(NONE, 1, 0, 2);
        linkIs(NONE, 2, 8, 2);
        linkIs(NONE, 2, 0, 8);
        yes("board", x.board(3, 4));
        yes("set", x.set(0, 1, 1));
        linkIs(NONE, 1, 0, 1);
        yes("set", x.set(11, 1, 1));
        linkIs(1, 1, 0, 1);
        yes("set", x.set(11, 0, 1));
        linkIs(NONE, 1, 0, 1);
    }

    private void half() {
        begin("19");
        tell(1, "N.N", "..N", "W.W");
        halvesAre(1, 0, 2, 1, 3, 4);
        halvesAre(1, 0, 4, 4);
        halvesAre(1, 0, 1, 1);
        halvesAre(1, 2, 5);
        halvesAre(1, 0, 7);
        halvesAre(2, 6, 3, 3);
        halvesAre(2, 6, 8, 7);
        tell(1, ".N.W", "....", ".N.W");
        halvesAre(1, 1, 9, 2, 4, 5, 6, 8);
        halvesAre(2, 3, 11, 6, 7, 10);
        for (int f : new int[] {-1, 12, 64, Integer.MIN_VALUE, Integer.MAX_VALUE}) {
            due("half " + f, NONE, x.half(1, 1, f, 0));
            due("half " + f, NONE, x.half(1, f, 1, 0));
        }
        for (int colour : WRONG_COLOURS) {
            due("half of " + colour, NONE, x.half(colour, 1, 9, 0));
        }
        due("one and the same", NONE, x.half(1, 1, 1, 0));
        due("the other's", NONE, x.half(1, 1, 3, 0));
        yes("board", x.board(3, 4));
        due("twelve", NONE, x.half(1, 0, 1, 0));
        yes("set", x.set(0, 1, 1));
        due("eleven", NONE, x.half(1, 0, 1, 0));
        yes("set", x.set(11, 1, 1));
        halvesAre(1, 0, 1, 1);
    }

    private void count() {
        begin("20");
        tell(2, "N.NN", "WW.N", "NW.W", "N..W", "N..W");
        int[] want = {5, 4, 7, 2, 0, 0, 3, 2, 2, 0};
        for (int what = 0; what < want.length; what++) {
            due("count " + what, want[what], x.count(what));
        }
        for (int what : new int[] {-1, 10, 11, 64, Integer.MIN_VALUE, Integer.MAX_VALUE}) {
            due("count " + what, NONE, x.count(what));
        }
        due("lay", 1, x.lay(13));
        due("lay", 1, x.lay(10));
        yes("undo", x.undo());
        due("done", 1, x.count(4));
        due("undone", 1, x.count(5));
        due("groups", 3, x.count(6));
        due("groups", 2, x.count(7));
        tell(1, "..N", "..N", "..N");
        due("dead", 6, x.count(8));
        due("way", 3, x.count(9));
        tell(1, "N.N.N.", "......", "N.N.N.", "......", "N.N.N.", "......");
        due("groups", 9, x.count(6));
        due("groups", 0, x.count(7));
        due("dead", NONE, x.count(8));
    }

    /** What was found for one board or link is not told of another. */
    private void askedInTurn() {
        begin("14 to 19");
        tell(1, "N.", ".N");
        due("fillings", 3, x.fillings());
        linkIs(2, 1, 0, 3);
        linkIs(0, 1, 1, 2);
        due("fillings", 3, x.fillings());
        due("winner", 1, x.winner(2));
        yes("set", x.set(1, 2, 1));
        due("fillings", 1, x.fillings());
        due("winner", 2, x.winner(2));
        linkIs(1, 1, 0, 3);
        x.change();
        due("fillings", 1, x.fillings());
        due("winner", 2, x.winner(2));
        linkIs(1, 2, 0, 3);
        yes("board", x.board(2, 3));
        due("fillings", 43, x.fillings());
        due("winner", 1, x.winner(2));
        yes("board", x.board(3, 2));
        due("fillings", 21, x.fillings());
        due("winner", 2, x.winner(2));
        linkIs(0, 1, 0, 3);
        yes("board", x.board(2, 3));
        linkIs(0, 1, 0, 3);
        tell(1, "NW", "..", "..");
        linkIs(1, 1, 0, 2);
        yes("undone", x.set(0, 0, 1));
        linkIs(0, 1, 0, 2);
    }

    /** The same fields have the same stones, but the boards have other sides. */
    private void likeStonesOnOtherBoards() {
        begin("18, 19");
        tell(1, "N..", "...");
        linkIs(1, 1, 0, 3);
        linkIs(0, 1, 0, 2);
        tell(1, "N.", "..", "..");
        linkIs(1, 1, 0, 2);
        halvesAre(1, 0, 3, 3);
        tell(1, "N..", "...");
        due("three columns", 1, x.link(1, 0, 3));
        tell(1, "N...", "....");
        due("four columns", 0, x.link(1, 0, 3));
        tell(1, "N..", "...");
        due("three columns again", 1, x.link(1, 0, 3));
        tell(1, "N.N");
        due("one row", 1, x.half(1, 0, 2, 0));
        due("one row", NONE, x.half(1, 0, 2, 1));
        tell(1, "N.N", "...");
        halvesAre(1, 0, 2, 1, 3, 4);
        tell(1, "N.N");
        due("one row", NONE, x.half(1, 0, 2, 1));
    }
}
