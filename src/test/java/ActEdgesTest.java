/** A test for each sentence on a new object and on acts (promises 1 to 8, and their terms) that names a boundary. */
public final class ActEdgesTest extends Sentences {
    private static final int[] TOO_SMALL = {0, -1, -3, -6, -7, LEAST, LEAST + 1, LEAST + 3};
    private static final int[] TOO_LARGE = {7, 8, 9, 36, 64, 67, 259, 1 << 16, (1 << 16) + 3, 1 << 30, MOST - 1, MOST};

    private ActEdgesTest() {
        super("ActEdgesTest");
    }

    public static void main(String[] args) {
        ActEdgesTest test = new ActEdgesTest();
        test.newObject();
        test.newObjectsAreTheirOwn();
        test.boardOfEachSize();
        test.boardTooSmall();
        test.boardTooLarge();
        test.boardRefused();
        test.boardIsEmpty();
        test.boardNorthToLay();
        test.boardForgetsDeeds();
        test.setNoSuchField();
        test.setNoSuchFieldAnyMore();
        test.setNoSuchColour();
        test.setNoSuchWho();
        test.setEachOnEach();
        test.setWhoIsToLay();
        test.setNothingWasDone();
        test.setWhereSomebodyJoined();
        test.layNoSuchField();
        test.layNotEmpty();
        test.layWhereTheSwappedStoneWas();
        test.laySomebodyJoinedByLaying();
        test.laySomebodyJoinedBySetting();
        test.laySomebodyJoinedNoMore();
        test.layJoins();
        test.layJoinsWithTheLastField();
        test.layInTurn();
        test.swapSidesNotAlike();
        test.swapEachField();
        test.swapNoStone();
        test.swapTwoStones();
        test.swapTwice();
        test.swapStoneUndone();
        test.swapSet();
        test.swapChangedOver();
        test.swapSinceTheBoardWasMade();
        test.swapJoined();
        test.undoNothingWas();
        test.undoAllOneByOne();
        test.undoTheSwap();
        test.undoTheJoiningStone();
        test.undoNotWhatWasSet();
        test.redoNothingUndone();
        test.redoBehindAnotherDeed();
        test.redoOneByOne();
        test.redoTheJoiningStone();
        test.redoAfterRefusals();
        test.changeSmallest();
        test.changeLargest();
        test.changeUnlikeSides();
        test.changeTwice();
        test.changeJoined();
        test.changeNothingWasDone();
        test.bothNever();
        test.longRun();
        test.end();
    }

    private void newObject() {
        sentence("1: A BOARD of three by three FIELDS, empty, NORTH to lay.");
        TwoBanks x = new TwoBanks();
        shows(x, "new", "...", "...", "...");
        due("behind the last field", NONE, x.at(9));
        stands(x, "new", 0, 0, 1);
        due("empty FIELDS", 9, x.count(2));
        due("GROUPS of NORTH", 0, x.count(6));
        due("GROUPS of WEST", 0, x.count(7));
        due("joined", 0, x.joined());
        due("lay", 1, x.lay(0));
        due("her stone", 1, x.at(0));
    }

    private void newObjectsAreTheirOwn() {
        sentence("1: An object's board is its own:");
        TwoBanks x = new TwoBanks();
        lays(x, 0, 1);
        due("fillings of the one", 64, x.fillings());
        TwoBanks y = new TwoBanks();
        shows(y, "the other", "...", "...", "...");
        stands(y, "the other", 0, 0, 1);
        due("fillings of the other", 256, y.fillings());
        yes("board", y.board(1, 1));
        shows(x, "the one", "NW.", "...", "...");
    }

    private void boardOfEachSize() {
        sentence("2: R rows and C columns (1 to 6 each)");
        for (int rows = 1; rows <= 6; rows++) {
            for (int columns = 1; columns <= 6; columns++) {
                TwoBanks x = made(rows, columns);
                due("rows", rows, x.count(0));
                due("columns", columns, x.count(1));
                due("first field", 0, x.at(0));
                due("last field", 0, x.at(rows * columns - 1));
                due("ahead of the first", NONE, x.at(-1));
                due("behind the last", NONE, x.at(rows * columns));
            }
        }
    }

    private void boardTooSmall() {
        sentence("2: false: no such rows, columns (too small).");
        for (int side : TOO_SMALL) {
            noBoard(side);
        }
    }

    private void boardTooLarge() {
        sentence("2: false: no such rows, columns (too large).");
        for (int side : TOO_LARGE) {
            noBoard(side);
        }
    }

    private void noBoard(int side) {
        TwoBanks x = new TwoBanks();
        for (int good = 1; good <= 6; good++) {
            no("board " + side + " " + good, x.board(side, good));
            no("board " + good + " " + side, x.board(good, side));
        }
        no("board " + side + " " + side, x.board(side, side));
        no("board " + side + " 7", x.board(side, 7));
        no("board 0 " + side, x.board(0, side));
        no("board " + side + " " + -side, x.board(side, -side));
        shows(x, "refused", "...", "...", "...");
    }

    private void boardRefused() {
        sentence("2: false: changes nothing:");
        TwoBanks x = made(2, 3);
        lays(x, 0, 4);
        yes("undo", x.undo());
        for (int side : new int[] {0, 7, -1, LEAST, MOST}) {
            no("board " + side + " 3", x.board(side, 3));
            no("board 2 " + side, x.board(2, side));
        }
        shows(x, "refused", "N..", "...");
        stands(x, "refused", 1, 1, 2);
        yes("redo", x.redo());
        shows(x, "done again", "N..", ".W.");
    }

    private void boardIsEmpty() {
        sentence("2: An empty BOARD:");
        TwoBanks x = told(1, "NWN", "WNN", "NWN");
        due("joined", 1, x.joined());
        yes("board", x.board(3, 3));
        shows(x, "made", "...", "...", "...");
        due("empty FIELDS", 9, x.count(2));
        due("GROUPS of NORTH", 0, x.count(6));
        due("GROUPS of WEST", 0, x.count(7));
        due("nobody has joined", 0, x.joined());
        due("no way", NONE, x.way(0));
        due("fillings", 256, x.fillings());
        yes("a larger one", x.board(6, 6));
        due("empty FIELDS", 36, x.count(2));
        yes("full", x.set(35, 2, 1));
        yes("a smaller one", x.board(2, 2));
        shows(x, "made", "..", "..");
        yes("the larger one again", x.board(6, 6));
        due("the stone is gone", 0, x.at(35));
    }

    private void boardNorthToLay() {
        sentence("2: NORTH to lay:");
        TwoBanks x = new TwoBanks();
        lays(x, 0);
        due("west", 2, x.count(3));
        yes("behind a stone", x.board(3, 3));
        stands(x, "made", 0, 0, 1);
        yes("set", x.set(0, 0, 2));
        yes("behind a set", x.board(3, 3));
        stands(x, "made", 0, 0, 1);
        x.change();
        due("west", 2, x.count(3));
        yes("behind a change", x.board(3, 3));
        stands(x, "made", 0, 0, 1);
        lays(x, 4);
        due("her stone", 1, x.at(4));
    }

    private void boardForgetsDeeds() {
        sentence("6, 7: false: nothing was (done on a new BOARD).");
        TwoBanks x = new TwoBanks();
        lays(x, 0, 1, 2);
        yes("undo", x.undo());
        stands(x, "laid", 2, 1, 1);
        yes("board", x.board(3, 3));
        stands(x, "made", 0, 0, 1);
        no("undo", x.undo());
        no("redo", x.redo());
        shows(x, "made", "...", "...", "...");
    }

    private void setNoSuchField() {
        sentence("3: false: no such FIELD.");
        int[][] sides = {{3, 3}, {1, 1}, {1, 6}, {6, 1}, {2, 3}, {5, 6}, {6, 6}};
        for (int[] side : sides) {
            TwoBanks x = made(side[0], side[1]);
            int fields = side[0] * side[1];
            for (int f : noFields(fields)) {
                for (int colour = 0; colour <= 2; colour++) {
                    no("set " + f + " " + colour, x.set(f, colour, 2));
                }
            }
            due("empty FIELDS", fields, x.count(2));
            due("to lay", 1, x.count(3));
            yes("the first", x.set(0, 2, 2));
            yes("the last", x.set(fields - 1, 1, 2));
            due("its stone", 1, x.at(fields - 1));
        }
    }

    private void setNoSuchFieldAnyMore() {
        sentence("3: false: no such FIELD (but on the BOARD before).");
        TwoBanks x = made(6, 6);
        yes("the last", x.set(35, 1, 1));
        yes("board", x.board(2, 2));
        no("the last of before", x.set(35, 1, 2));
        no("behind the last", x.set(4, 1, 2));
        yes("the last now", x.set(3, 2, 1));
        shows(x, "set", "..", ".W");
    }

    private void setNoSuchColour() {
        sentence("3: false: no such colour.");
        TwoBanks x = told(1, "NW.", "...", "...");
        for (int colour : NO_COLOURS) {
            if (colour != 0) {
                for (int f = 0; f < 3; f++) {
                    no("set " + f + " " + colour + " 1", x.set(f, colour, 1));
                    no("set " + f + " " + colour + " 2", x.set(f, colour, 2));
                }
            }
        }
        shows(x, "refused", "NW.", "...", "...");
        due("to lay", 1, x.count(3));
    }

    private void setNoSuchWho() {
        sentence("3: false: no such who.");
        TwoBanks x = told(2, "NW.", "...", "...");
        for (int who : NO_COLOURS) {
            for (int colour = 0; colour <= 2; colour++) {
                no("set 0 " + colour + " " + who, x.set(0, colour, who));
                no("set 2 " + colour + " " + who, x.set(2, colour, who));
            }
        }
        shows(x, "refused", "NW.", "...", "...");
        due("to lay", 2, x.count(3));
    }

    private void setEachOnEach() {
        sentence("3: FIELD f is SET to 0, 1 or 2:");
        for (int before = 0; before <= 2; before++) {
            for (int colour = 0; colour <= 2; colour++) {
                TwoBanks x = new TwoBanks();
                yes("set", x.set(4, before, 1));
                yes("set", x.set(4, colour, 1));
                due("at, behind " + before, colour, x.at(4));
                due("empty FIELDS", colour == 0 ? 9 : 8, x.count(2));
                due("GROUPS of NORTH", colour == 1 ? 1 : 0, x.count(6));
                due("GROUPS of WEST", colour == 2 ? 1 : 0, x.count(7));
                due("the field beside", 0, x.at(3) + x.at(5));
            }
        }
    }

    private void setWhoIsToLay() {
        sentence("3: and who (1, 2) is to lay:");
        for (int who = 1; who <= 2; who++) {
            for (int colour = 0; colour <= 2; colour++) {
                TwoBanks x = new TwoBanks();
                lays(x, 8);
                yes("set", x.set(0, colour, who));
                due("to lay", who, x.count(3));
                lays(x, 4);
                due("whose stone", who, x.at(4));
                due("to lay next", 3 - who, x.count(3));
            }
        }
    }

    private void setNothingWasDone() {
        sentence("3: nothing was done:");
        for (int colour = 0; colour <= 2; colour++) {
            TwoBanks x = new TwoBanks();
            lays(x, 0, 1, 2);
            yes("undo", x.undo());
            yes("set", x.set(8, colour, 1));
            stands(x, "set", 0, 0, 1);
            no("undo", x.undo());
            no("redo", x.redo());
            due("the stones stay", 1, x.at(0));
            due("the stones stay", 2, x.at(1));
            lays(x, 4);
            stands(x, "a stone behind it", 1, 0, 2);
            yes("undo", x.undo());
            no("no more", x.undo());
        }
    }

    private void setWhereSomebodyJoined() {
        sentence("3: FIELD f is SET (who has JOINED does not matter, nor a full BOARD):");
        TwoBanks x = new TwoBanks();
        lays(x, 0, 1, 3, 4);
        due("north joins", 2, x.lay(6));
        yes("set", x.set(2, 1, 1));
        yes("taken away", x.set(3, 0, 1));
        due("nobody", 0, x.joined());
        tell(x, 1, "NN", "NN");
        yes("on the full board", x.set(1, 2, 2));
        shows(x, "set", "NW", "NN");
        yes("emptied", x.set(0, 0, 2));
        shows(x, "set", ".W", "NN");
    }

    private void layNoSuchField() {
        sentence("4: NONE: no such FIELD.");
        int[][] sides = {{3, 3}, {1, 1}, {1, 6}, {6, 1}, {2, 3}, {5, 6}, {6, 6}};
        for (int[] side : sides) {
            TwoBanks x = made(side[0], side[1]);
            int fields = side[0] * side[1];
            for (int f : noFields(fields)) {
                due("lay " + f, NONE, x.lay(f));
            }
            due("empty FIELDS", fields, x.count(2));
            stands(x, "refused", 0, 0, 1);
            due("the last", side[0] == 1 ? 2 : 1, x.lay(fields - 1));
            due("her stone", 1, x.at(fields - 1));
        }
    }

    private void layNotEmpty() {
        sentence("4: NONE: it is not empty.");
        TwoBanks x = new TwoBanks();
        lays(x, 0);
        due("on her own, he", NONE, x.lay(0));
        stands(x, "refused", 1, 0, 2);
        lays(x, 8);
        due("on hers, she", NONE, x.lay(0));
        due("on his, she", NONE, x.lay(8));
        stands(x, "refused", 2, 0, 1);
        lays(x, 1);
        due("on his, he", NONE, x.lay(8));
        shows(x, "refused", "NN.", "...", "..W");
        yes("undo", x.undo());
        due("on his, she", NONE, x.lay(8));
        stands(x, "refused", 2, 1, 1);
        yes("set", x.set(4, 2, 1));
        due("on one set", NONE, x.lay(4));
        yes("set away", x.set(4, 0, 1));
        lays(x, 4);
    }

    private void layWhereTheSwappedStoneWas() {
        sentence("4: NONE: it is not empty (behind THE SWAP).");
        TwoBanks x = new TwoBanks();
        lays(x, 1);
        yes("swap", x.swap());
        due("on the stone taken over", NONE, x.lay(3));
        lays(x, 1);
        due("her stone where it was", 1, x.at(1));
        stands(x, "laid", 3, 0, 2);
    }

    private void laySomebodyJoinedByLaying() {
        sentence("4: NONE: somebody has JOINED (by a STONE).");
        TwoBanks x = new TwoBanks();
        lays(x, 0, 1, 3, 4);
        due("north joins", 2, x.lay(6));
        for (int f = 0; f < 9; f++) {
            due("lay " + f, NONE, x.lay(f));
        }
        shows(x, "refused", "NW.", "NW.", "N..");
        stands(x, "refused", 5, 0, 2);
        yes("board", x.board(3, 3));
        lays(x, 0, 3, 1, 4, 8);
        due("west joins", 2, x.lay(5));
        for (int f = 0; f < 9; f++) {
            due("lay " + f, NONE, x.lay(f));
        }
        shows(x, "refused", "NN.", "WWW", "..N");
        stands(x, "refused", 6, 0, 1);
    }

    private void laySomebodyJoinedBySetting() {
        sentence("4: NONE: somebody has JOINED (by what was SET).");
        for (int who = 1; who <= 2; who++) {
            TwoBanks x = told(who, "N..", "N..", "N..");
            due("north has, lay", NONE, x.lay(1));
            shows(x, "refused", "N..", "N..", "N..");
            stands(x, "refused", 0, 0, who);
            tell(x, who, "...", "WWW", "...");
            due("west has, lay", NONE, x.lay(0));
            shows(x, "refused", "...", "WWW", "...");
            stands(x, "refused", 0, 0, who);
        }
    }

    private void laySomebodyJoinedNoMore() {
        sentence("4: NONE: somebody has JOINED (and not when that was undone, or SET away).");
        TwoBanks x = new TwoBanks();
        lays(x, 0, 1, 3, 4);
        due("north joins", 2, x.lay(6));
        yes("undo", x.undo());
        lays(x, 8);
        due("her stone", 1, x.at(8));
        tell(x, 1, "WWW", "...", "...");
        due("west has", NONE, x.lay(8));
        yes("set away", x.set(1, 0, 1));
        lays(x, 8);
    }

    private void layJoins() {
        sentence("4: 2: it has JOINED by it:");
        for (int side = 1; side <= 6; side++) {
            for (int f = 0; f < side; f++) {
                TwoBanks x = made(1, side);
                due("one row, the first stone", 2, x.lay(f));
                due("joined", 1, x.joined());
                stands(x, "joined", 1, 0, 2);
                x = made(side, 1);
                yes("west to lay", x.set(0, 0, 2));
                due("one column, his first stone", 2, x.lay(f));
                due("joined", 2, x.joined());
                stands(x, "joined", 1, 0, 1);
            }
        }
        TwoBanks x = told(1, "..N", "...", "N..");
        due("two groups in one", 2, x.lay(4));
        x = told(1, "..N", "...", "N..");
        due("beside the one alone", 1, x.lay(5));
        x = told(2, "..N", "WW.", "N..");
        due("beside nothing of his", 1, x.lay(8));
        x = told(2, "..N", "WW.", "N..");
        due("beside his own and the east bank", 2, x.lay(5));
    }

    private void layJoinsWithTheLastField() {
        sentence("4: 2: it has JOINED by it (by the last empty FIELD, on a full BOARD then).");
        TwoBanks x = told(1, "NW", "W.");
        due("west has joined", NONE, x.lay(3));
        tell(x, 1, "WN", "N.");
        due("north has joined", NONE, x.lay(3));
        tell(x, 1, "WN", ".W");
        due("she joins", 2, x.lay(2));
        due("full", 0, x.count(2));
        due("joined", 1, x.joined());
        tell(x, 2, "WN", ".W");
        due("he joins", 2, x.lay(2));
        due("full", 0, x.count(2));
        due("joined", 2, x.joined());
        due("nothing left", NONE, x.lay(2));
        no("no swap", x.swap());
        yes("undo", x.undo());
        due("one is empty again", 1, x.count(2));
        yes("redo", x.redo());
        due("full again", 0, x.count(2));
        x = made(2, 2);
        lays(x, 0, 1, 3);
        due("a whole play", 2, x.lay(2));
        due("joined", 2, x.joined());
        stands(x, "full", 4, 0, 1);
    }

    private void layInTurn() {
        sentence("4: NORTH lays first, then they lay in turn:");
        TwoBanks x = made(4, 4);
        int[] order = {0, 15, 1, 14, 2, 13, 7, 8};
        for (int i = 0; i < order.length; i++) {
            due("to lay", 1 + i % 2, x.count(3));
            lays(x, order[i]);
            due("whose stone", 1 + i % 2, x.at(order[i]));
            stands(x, "laid", i + 1, 0, 2 - i % 2);
        }
        due("empty FIELDS", 8, x.count(2));
    }

    private void swapSidesNotAlike() {
        sentence("5: false: sides are not alike.");
        for (int rows = 1; rows <= 6; rows++) {
            for (int columns = 1; columns <= 6; columns++) {
                if (rows != columns) {
                    TwoBanks x = made(rows, columns);
                    due("lay", rows == 1 ? 2 : 1, x.lay(0));
                    no("swap " + rows + " " + columns, x.swap());
                    due("her stone", 1, x.at(0));
                    stands(x, "refused", 1, 0, 2);
                }
            }
        }
    }

    private void swapEachField() {
        sentence("5: it goes from row r, column c to row c, column r and is his; NORTH is to lay then:");
        for (int side = 2; side <= 6; side++) {
            for (int f = 0; f < side * side; f++) {
                TwoBanks x = made(side, side);
                lays(x, f);
                yes("swap " + f, x.swap());
                int goal = side * (f % side) + f / side;
                for (int g = 0; g < side * side; g++) {
                    due("at " + g, g == goal ? 2 : 0, x.at(g));
                }
                stands(x, "swapped", 2, 0, 1);
            }
        }
    }

    private void swapNoStone() {
        sentence("5: false: not just one STONE was laid (but none).");
        for (int side = 1; side <= 6; side++) {
            TwoBanks x = made(side, side);
            no("swap", x.swap());
            due("empty FIELDS", side * side, x.count(2));
            stands(x, "refused", 0, 0, 1);
        }
        no("on a new object", new TwoBanks().swap());
    }

    private void swapTwoStones() {
        sentence("5: false: not just one STONE was laid (but two, or three).");
        TwoBanks x = new TwoBanks();
        lays(x, 1, 2);
        no("two", x.swap());
        shows(x, "refused", ".NW", "...", "...");
        stands(x, "refused", 2, 0, 1);
        lays(x, 5);
        no("three", x.swap());
        shows(x, "refused", ".NW", "..N", "...");
        stands(x, "refused", 3, 0, 2);
    }

    private void swapTwice() {
        sentence("5: behind the first STONE and ahead of any other (and once):");
        TwoBanks x = new TwoBanks();
        lays(x, 1);
        yes("once", x.swap());
        no("twice", x.swap());
        shows(x, "refused", "...", "W..", "...");
        stands(x, "refused", 2, 0, 1);
        lays(x, 4);
        no("behind hers", x.swap());
        shows(x, "refused", "...", "WN.", "...");
        stands(x, "refused", 3, 0, 2);
        yes("undo", x.undo());
        yes("undo", x.undo());
        yes("undone, it can be again", x.swap());
        stands(x, "swapped", 2, 0, 1);
    }

    private void swapStoneUndone() {
        sentence("5: false: not just one STONE was laid (one undone is not there).");
        TwoBanks x = new TwoBanks();
        lays(x, 1);
        yes("undo", x.undo());
        no("the only one undone", x.swap());
        stands(x, "refused", 0, 1, 1);
        yes("redo", x.redo());
        yes("done again", x.swap());
        x = new TwoBanks();
        lays(x, 1, 2);
        yes("undo", x.undo());
        yes("the second undone", x.swap());
        shows(x, "swapped", "...", "W..", "...");
        stands(x, "swapped", 2, 0, 1);
    }

    private void swapSet() {
        sentence("5: false: something was SET since.");
        for (int colour = 0; colour <= 2; colour++) {
            TwoBanks x = new TwoBanks();
            yes("set", x.set(8, colour, 1));
            lays(x, 1);
            no("ahead of the stone", x.swap());
            due("her stone", 1, x.at(1));
            stands(x, "refused", 1, 0, 2);
            x = new TwoBanks();
            lays(x, 1);
            yes("set", x.set(8, colour, 2));
            no("behind the stone", x.swap());
            due("her stone", 1, x.at(1));
            stands(x, "refused", 0, 0, 2);
        }
        TwoBanks x = new TwoBanks();
        no("a set refused", x.set(9, 1, 1));
        lays(x, 1);
        no("a set refused", x.set(1, 3, 1));
        yes("is none", x.swap());
    }

    private void swapChangedOver() {
        sentence("5: false: it was CHANGED OVER since.");
        TwoBanks x = new TwoBanks();
        x.change();
        lays(x, 1);
        no("ahead of the stone", x.swap());
        due("his stone", 2, x.at(1));
        stands(x, "refused", 1, 0, 1);
        x = new TwoBanks();
        lays(x, 1);
        x.change();
        no("behind the stone", x.swap());
        due("his stone", 2, x.at(3));
        stands(x, "refused", 0, 0, 1);
        x = new TwoBanks();
        x.change();
        x.change();
        lays(x, 1);
        no("twice, as it was", x.swap());
        due("her stone", 1, x.at(1));
    }

    private void swapSinceTheBoardWasMade() {
        sentence("5: since the BOARD was made (a new one can have THE SWAP again):");
        TwoBanks x = new TwoBanks();
        yes("set", x.set(8, 1, 1));
        yes("board", x.board(3, 3));
        lays(x, 1);
        yes("set before", x.swap());
        x.change();
        yes("board", x.board(3, 3));
        lays(x, 1);
        yes("changed over before", x.swap());
        lays(x, 0);
        yes("board", x.board(3, 3));
        lays(x, 5);
        yes("stones before", x.swap());
        due("his stone", 2, x.at(7));
        yes("set", x.set(8, 1, 1));
        no("no board", x.board(3, 7));
        no("refused, the old one stays", x.swap());
    }

    private void swapJoined() {
        sentence("5: false: somebody has JOINED.");
        TwoBanks x = made(1, 1);
        due("lay", 2, x.lay(0));
        no("swap", x.swap());
        due("her stone", 1, x.at(0));
        due("joined", 1, x.joined());
        stands(x, "refused", 1, 0, 2);
    }

    private void undoNothingWas() {
        sentence("6: false: nothing was.");
        TwoBanks x = new TwoBanks();
        no("new", x.undo());
        due("lay refused", NONE, x.lay(9));
        no("swap refused", x.swap());
        no("what was refused is not done", x.undo());
        yes("set", x.set(0, 1, 2));
        no("set", x.undo());
        shows(x, "set", "N..", "...", "...");
        x.change();
        no("changed over", x.undo());
        shows(x, "changed over", "W..", "...", "...");
        yes("board", x.board(2, 2));
        no("made", x.undo());
        lays(x, 0);
        yes("what was laid", x.undo());
        no("and no more", x.undo());
        stands(x, "refused", 0, 1, 1);
    }

    private void undoAllOneByOne() {
        sentence("6: What was done last is undone, one by one:");
        TwoBanks x = made(2, 4);
        int[] order = {7, 0, 6, 1, 5};
        for (int f : order) {
            lays(x, f);
        }
        for (int left = order.length - 1; left >= 0; left--) {
            yes("undo", x.undo());
            due("gone", 0, x.at(order[left]));
            due("empty FIELDS", 8 - left, x.count(2));
            due("the one before stays", left == 0 ? 0 : 2 - left % 2, left == 0 ? 0 : x.at(order[left - 1]));
            stands(x, "undone", left, order.length - left, 1 + left % 2);
        }
        no("nothing left", x.undo());
        stands(x, "nothing left", 0, order.length, 1);
    }

    private void undoTheSwap() {
        sentence("6: What was done last (a STONE, THE SWAP) is undone:");
        for (int f = 0; f < 9; f++) {
            TwoBanks x = new TwoBanks();
            lays(x, f);
            yes("swap", x.swap());
            yes("undo", x.undo());
            for (int g = 0; g < 9; g++) {
                due("at " + g, g == f ? 1 : 0, x.at(g));
            }
            stands(x, "undone", 1, 1, 2);
            yes("undo the stone", x.undo());
            due("empty FIELDS", 9, x.count(2));
            stands(x, "undone", 0, 2, 1);
            no("nothing left", x.undo());
        }
    }

    private void undoTheJoiningStone() {
        sentence("6: What was done last (a STONE by which somebody JOINED) is undone:");
        TwoBanks x = made(1, 1);
        due("lay", 2, x.lay(0));
        yes("undo", x.undo());
        due("joined", 0, x.joined());
        due("at", 0, x.at(0));
        stands(x, "undone", 0, 1, 1);
        x = told(2, "W.", "NN");
        due("lay", 2, x.lay(1));
        yes("undo", x.undo());
        due("joined", 0, x.joined());
        shows(x, "undone", "W.", "NN");
        stands(x, "undone", 0, 1, 2);
    }

    private void undoNotWhatWasSet() {
        sentence("6: nothing was done (by SET, or ahead of it):");
        TwoBanks x = new TwoBanks();
        lays(x, 0, 1);
        yes("set", x.set(2, 1, 1));
        lays(x, 3);
        yes("the stone behind it", x.undo());
        no("not the set, nor what was ahead of it", x.undo());
        shows(x, "undone", "NWN", "...", "...");
        stands(x, "undone", 0, 1, 1);
        yes("redo", x.redo());
        shows(x, "done again", "NWN", "N..", "...");
    }

    private void redoNothingUndone() {
        sentence("7: false: nothing was undone.");
        TwoBanks x = new TwoBanks();
        no("new", x.redo());
        no("undo", x.undo());
        no("an undo that was refused", x.redo());
        lays(x, 0);
        no("behind a stone", x.redo());
        yes("swap", x.swap());
        no("behind the swap", x.redo());
        yes("undo", x.undo());
        yes("redo", x.redo());
        no("all done again", x.redo());
        stands(x, "refused", 2, 0, 1);
        yes("undo", x.undo());
        yes("set", x.set(8, 0, 1));
        no("behind a set", x.redo());
        lays(x, 1);
        yes("undo", x.undo());
        x.change();
        no("behind a change", x.redo());
        lays(x, 1);
        yes("undo", x.undo());
        yes("board", x.board(3, 3));
        no("behind a board", x.redo());
        stands(x, "refused", 0, 0, 1);
        due("empty FIELDS", 9, x.count(2));
    }

    private void redoBehindAnotherDeed() {
        sentence("7: false: nothing was undone behind the last that was done.");
        TwoBanks x = new TwoBanks();
        lays(x, 0, 1, 2);
        yes("undo", x.undo());
        yes("undo", x.undo());
        lays(x, 1);
        stands(x, "the same stone anew", 2, 0, 1);
        no("behind it", x.redo());
        shows(x, "refused", "NW.", "...", "...");
        x = new TwoBanks();
        lays(x, 1, 2);
        yes("undo", x.undo());
        yes("swap", x.swap());
        no("behind the swap", x.redo());
        shows(x, "refused", "...", "W..", "...");
        yes("undo", x.undo());
        lays(x, 0);
        no("behind a stone for the swap", x.redo());
        shows(x, "refused", "WN.", "...", "...");
        lays(x, 8);
        yes("undo", x.undo());
        yes("what was undone behind it", x.redo());
        shows(x, "done again", "WN.", "...", "..N");
    }

    private void redoOneByOne() {
        sentence("7: What was undone last is done again, one by one:");
        TwoBanks x = made(4, 4);
        lays(x, 1);
        yes("swap", x.swap());
        lays(x, 0, 15, 2);
        for (int i = 0; i < 5; i++) {
            yes("undo", x.undo());
        }
        stands(x, "undone", 0, 5, 1);
        yes("her stone", x.redo());
        shows(x, "one", ".N..", "....", "....", "....");
        stands(x, "one", 1, 4, 2);
        yes("the swap", x.redo());
        shows(x, "two", "....", "W...", "....", "....");
        stands(x, "two", 2, 3, 1);
        yes("hers", x.redo());
        shows(x, "three", "N...", "W...", "....", "....");
        stands(x, "three", 3, 2, 2);
        yes("undo", x.undo());
        stands(x, "two again", 2, 3, 1);
        yes("hers", x.redo());
        yes("his", x.redo());
        shows(x, "four", "N...", "W...", "....", "...W");
        stands(x, "four", 4, 1, 1);
        yes("hers", x.redo());
        shows(x, "five", "N.N.", "W...", "....", "...W");
        stands(x, "five", 5, 0, 2);
        no("nothing left", x.redo());
        stands(x, "refused", 5, 0, 2);
    }

    private void redoTheJoiningStone() {
        sentence("7: What was undone last (a STONE by which somebody JOINED) is done again:");
        TwoBanks x = told(2, "W.", "NN");
        due("lay", 2, x.lay(1));
        yes("undo", x.undo());
        yes("redo", x.redo());
        due("joined", 2, x.joined());
        shows(x, "done again", "WW", "NN");
        stands(x, "done again", 1, 0, 1);
        no("nothing left", x.redo());
    }

    private void redoAfterRefusals() {
        sentence("7: What was refused was not done, and does not end what can be done again:");
        TwoBanks x = made(2, 3);
        lays(x, 0, 4);
        yes("undo", x.undo());
        due("lay", NONE, x.lay(0));
        due("lay", NONE, x.lay(6));
        no("swap", x.swap());
        no("set", x.set(6, 1, 1));
        no("set", x.set(5, 3, 1));
        no("set", x.set(5, 1, 0));
        no("board", x.board(0, 3));
        stands(x, "refused", 1, 1, 2);
        yes("redo", x.redo());
        shows(x, "done again", "N..", ".W.");
        no("redo", x.redo());
        yes("undo behind a redo refused", x.undo());
        yes("redo", x.redo());
    }

    private void changeSmallest() {
        sentence("8: row r, column c goes to row c, column r (the smallest BOARD).");
        TwoBanks x = made(1, 1);
        x.change();
        shows(x, "empty", ".");
        stands(x, "empty", 0, 0, 2);
        x.change();
        stands(x, "empty", 0, 0, 1);
        due("lay", 2, x.lay(0));
        x.change();
        shows(x, "full", "W");
        due("joined", 2, x.joined());
        stands(x, "full", 0, 0, 1);
    }

    private void changeLargest() {
        sentence("8: row r, column c goes to row c, column r (the largest BOARD, empty, full).");
        TwoBanks x = made(6, 6);
        x.change();
        due("empty FIELDS", 36, x.count(2));
        stands(x, "empty", 0, 0, 2);
        String[] full = {"NNNNNN", "NWNNNN", "NWWNNN", "NWWWWW", "NWWWWW", "NWWWWW"};
        String[] over = {"WWWWWW", "WNNNNN", "WWNNNN", "WWWNNN", "WWWNNN", "WWWNNN"};
        tell(x, 1, full);
        x.change();
        shows(x, "full", over);
        due("empty FIELDS", 0, x.count(2));
        stands(x, "full", 0, 0, 2);
        x = made(6, 6);
        yes("the last field", x.set(35, 1, 2));
        x.change();
        due("stays", 2, x.at(35));
        stands(x, "changed", 0, 0, 1);
    }

    private void changeUnlikeSides() {
        sentence("8: row r, column c goes to row c, column r (R and C change places):");
        for (int rows = 1; rows <= 6; rows++) {
            for (int columns = 1; columns <= 6; columns++) {
                for (int f = 0; f < rows * columns; f++) {
                    TwoBanks x = made(rows, columns);
                    int colour = 1 + f % 2;
                    yes("set", x.set(f, colour, 1));
                    x.change();
                    due("rows", columns, x.count(0));
                    due("columns", rows, x.count(1));
                    due("empty FIELDS", rows * columns - 1, x.count(2));
                    due("to lay", 2, x.count(3));
                    due("stone " + f, 3 - colour, x.at(rows * (f % columns) + f / columns));
                }
            }
        }
    }

    private void changeTwice() {
        sentence("8: The BOARD is CHANGED OVER (twice: as it was).");
        TwoBanks x = told(2, "NW..", "..N.", "W..W");
        x.change();
        shows(x, "once", "W.N", "N..", ".W.", "..N");
        due("to lay", 1, x.count(3));
        x.change();
        shows(x, "twice", "NW..", "..N.", "W..W");
        due("to lay", 2, x.count(3));
    }

    private void changeJoined() {
        sentence("8: colours change (and who has JOINED).");
        TwoBanks x = told(1, ".N", "N.", "N.");
        due("north", 1, x.joined());
        x.change();
        due("west", 2, x.joined());
        shows(x, "changed", ".WW", "W..");
        due("the way", 3, x.way(0));
        due("lay", NONE, x.lay(0));
        x.change();
        due("north again", 1, x.joined());
    }

    private void changeNothingWasDone() {
        sentence("8: nothing was done:");
        TwoBanks x = new TwoBanks();
        lays(x, 1);
        yes("swap", x.swap());
        lays(x, 0);
        yes("undo", x.undo());
        x.change();
        stands(x, "changed", 0, 0, 2);
        no("undo", x.undo());
        no("redo", x.redo());
        shows(x, "changed", ".N.", "...", "...");
        lays(x, 8);
        due("his stone", 2, x.at(8));
        stands(x, "a stone behind it", 1, 0, 1);
        yes("undo", x.undo());
        no("no more", x.undo());
    }

    private void bothNever() {
        sentence("Terms: (Both never.) On a full BOARD one has JOINED:");
        int[][] sides = {{1, 1}, {1, 4}, {4, 1}, {2, 2}, {2, 3}, {3, 2}, {3, 3}};
        for (int[] side : sides) {
            int fields = side[0] * side[1];
            int norths = 0;
            for (int full = 0; full < 1 << fields; full++) {
                TwoBanks x = made(side[0], side[1]);
                for (int f = 0; f < fields; f++) {
                    x.set(f, 1 + (full >> f & 1), 1);
                }
                int who = x.joined();
                yes("joined " + full, who == 1 || who == 2);
                norths += who == 1 ? 1 : 0;
                x.change();
                due("the other, changed over " + full, 3 - who, x.joined());
            }
            due("as many as FILLINGS", made(side[0], side[1]).fillings(), norths);
        }
    }

    private void longRun() {
        sentence("An object is used for at most 512 calls:");
        TwoBanks x = made(6, 6);
        for (int call = 2; call + 3 + 3 <= 512; call += 4) {
            due("lay", 1, x.lay(call % 36));
            yes("undo", x.undo());
            yes("redo", x.redo());
            yes("undo", x.undo());
        }
        stands(x, "in the end", 0, 1, 1);
    }
}
