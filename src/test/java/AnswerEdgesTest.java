/** A test for each sentence on answers (promises 9 to 20, and their terms) that names a boundary. */
public final class AnswerEdgesTest extends Sentences {
    private static final int[][] SIDES = {{1, 1}, {1, 2}, {2, 1}, {1, 6}, {6, 1}, {2, 3}, {3, 3}, {5, 6}, {6, 6}};
    /** NORTH has joined; ten fields are empty. */
    private static final String[] LARGE_TEN = {"NWWWWW", "NWWWWW", "NWWWWW", "NWWWWW", "N.....", "N....."};
    private static final String[] LARGE_ELEVEN = {"NWWWWW", "NWWWWW", "NWWWWW", "NWWWW.", "N.....", "N....."};
    private static final String[] TEN = {"NW.", "...", "...", "..."};
    private static final String[] ELEVEN = {"N..", "...", "...", "..."};
    private static final String[] FULL_NORTH = {"NNW", "WNW", "WNN"};
    private static final String[] FULL_WEST = {"NNW", "WWN", "WNN"};
    private static final String[] BRIDGE = {"N.", ".N"};

    private AnswerEdgesTest() {
        super("AnswerEdgesTest");
    }

    public static void main(String[] args) {
        AnswerEdgesTest test = new AnswerEdgesTest();
        test.atNoSuchField();
        test.atEachColour();
        test.groupNoSuchField();
        test.groupNoStone();
        test.groupOfOne();
        test.groupOfAll();
        test.lookNoSuchField();
        test.lookNoStone();
        test.lookAnotherWhat();
        test.lookLeastAndMost();
        test.lookBanksOfBothColours();
        test.joinedNobody();
        test.joinedByOneStone();
        test.joinedOneStoneShort();
        test.joinedOnAFullBoard();
        test.wayNobody();
        test.wayNoneSuch();
        test.wayOfOneField();
        test.wayOfTheLargestBoard();
        test.winnerNoSuchWho();
        test.winnerTooManyEmpty();
        test.winnerFullBoard();
        test.winnerJoined();
        test.winnerOneField();
        test.firstNoSuchWho();
        test.firstTooManyEmpty();
        test.firstNoneSuch();
        test.firstFullBoard();
        test.firstJoined();
        test.fillingsTooManyEmpty();
        test.fillingsFullBoard();
        test.fillingsAllAndNone();
        test.deadNoSuchField();
        test.deadNotEmpty();
        test.deadTooManyEmpty();
        test.deadAllAndNone();
        test.linkNoSuchColour();
        test.linkNoSuchFields();
        test.linkOneAndTheSame();
        test.linkOtherColour();
        test.linkTooManyEmpty();
        test.linkEmptyOrOwn();
        test.linkFullBoard();
        test.linkJoinedIsNotAsked();
        test.halfNoneSuch();
        test.halfIsNoHalf();
        test.halfAtItsEnds();
        test.halfAsLink();
        test.halfTooManyEmpty();
        test.countAnother();
        test.countSides();
        test.countEmpty();
        test.countDone();
        test.countGroups();
        test.countDead();
        test.countWay();
        test.end();
    }

    private void atNoSuchField() {
        sentence("9: NONE: no such FIELD.");
        for (int[] side : SIDES) {
            TwoBanks x = made(side[0], side[1]);
            int fields = side[0] * side[1];
            for (int f = 0; f < fields; f++) {
                yes("set " + f, x.set(f, 1 + f % 2, 1));
                due("at " + f, 1 + f % 2, x.at(f));
            }
            for (int f : noFields(fields)) {
                due("at " + f, NONE, x.at(f));
            }
        }
    }

    private void atEachColour() {
        sentence("9: What FIELD f has (empty 0, NORTH 1, WEST 2):");
        TwoBanks x = new TwoBanks();
        due("empty", 0, x.at(4));
        lays(x, 4, 0);
        due("hers", 1, x.at(4));
        due("his", 2, x.at(0));
        yes("undo", x.undo());
        due("undone", 0, x.at(0));
        yes("swap", x.swap());
        due("taken over", 2, x.at(4));
    }

    private void groupNoSuchField() {
        sentence("10: NONE: there is none (no such FIELD).");
        for (int[] side : SIDES) {
            int fields = side[0] * side[1];
            for (int colour = 1; colour <= 2; colour++) {
                TwoBanks x = filled(side[0], side[1], colour);
                for (int f : noFields(fields)) {
                    due("group " + f, NONE, x.group(f));
                }
            }
        }
    }

    private void groupNoStone() {
        sentence("10: NONE: there is none (no STONE at f).");
        TwoBanks x = told(1, "N.W", "...", ".N.");
        for (int f : new int[] {1, 3, 4, 5, 6, 8}) {
            due("group " + f, NONE, x.group(f));
        }
        due("a stone", 0, x.group(0));
        yes("set away", x.set(0, 0, 1));
        due("no stone any more", NONE, x.group(0));
        x = new TwoBanks();
        lays(x, 1);
        yes("swap", x.swap());
        due("where it was", NONE, x.group(1));
        due("where it is", 3, x.group(3));
    }

    private void groupOfOne() {
        sentence("10: The lowest FIELD of the GROUP (of one STONE: its own).");
        for (int f = 0; f < 36; f++) {
            TwoBanks x = made(6, 6);
            yes("set", x.set(f, 1 + f % 2, 1));
            due("group " + f, f, x.group(f));
        }
    }

    private void groupOfAll() {
        sentence("10: The lowest FIELD of the GROUP (of the full BOARD).");
        for (int[] side : SIDES) {
            for (int colour = 1; colour <= 2; colour++) {
                TwoBanks x = filled(side[0], side[1], colour);
                for (int f = 0; f < side[0] * side[1]; f++) {
                    due("group " + f, 0, x.group(f));
                }
            }
        }
        TwoBanks x = told(1, "NNNNNN", "WWWWWN", "NNNNWN", "NWWNWN", "NWNNWN", "NWWWWN");
        due("two that hang together round a bend", 0, x.group(35));
        due("inside the bend", 12, x.group(27));
        due("his", 6, x.group(34));
        due("his", 6, x.group(20));
    }

    private void lookNoSuchField() {
        sentence("11: NONE: no STONE (no such FIELD).");
        for (int[] side : SIDES) {
            TwoBanks x = filled(side[0], side[1], 1);
            for (int f : noFields(side[0] * side[1])) {
                for (int what = 0; what <= 2; what++) {
                    due("look " + f + " " + what, NONE, x.look(f, what));
                }
            }
        }
    }

    private void lookNoStone() {
        sentence("11: NONE: no STONE.");
        TwoBanks x = told(1, "N.W", "...", ".N.");
        for (int f : new int[] {1, 3, 4, 5, 6, 8}) {
            for (int what = -1; what <= 3; what++) {
                due("look " + f + " " + what, NONE, x.look(f, what));
            }
        }
    }

    private void lookAnotherWhat() {
        sentence("11: NONE: another what.");
        TwoBanks x = told(1, "N.W", "...", ".N.");
        for (int f : new int[] {0, 2, 7}) {
            for (int what : new int[] {3, -1, 4, 8, -2, 32, 64, 256, 258, LEAST, LEAST + 1, LEAST + 2, MOST}) {
                due("look " + f + " " + what, NONE, x.look(f, what));
            }
        }
    }

    private void lookLeastAndMost() {
        sentence("11: how many STONES, empty FIELDS beside it (the least and the most):");
        TwoBanks x = filled(6, 6, 2);
        for (int f : new int[] {0, 17, 35}) {
            due("all stones", 36, x.look(f, 0));
            due("all banks", 15, x.look(f, 1));
            due("nothing empty", 0, x.look(f, 2));
        }
        x = told(1, "...", ".N.", "...");
        due("one stone", 1, x.look(4, 0));
        due("no bank", 0, x.look(4, 1));
        due("six neighbours", 6, x.look(4, 2));
        x = told(1, ".....", ".NNN.", ".....");
        due("each beside it once", 10, x.look(1 + 5, 2));
        x = told(1, "WWW", "WNW", "WWW");
        due("hemmed in", 0, x.look(4, 2));
        x = told(1, ".WW", "WNW", "WW.");
        due("the corners are not beside it", 0, x.look(4, 2));
        x = made(1, 1);
        due("lay", 2, x.lay(0));
        due("the smallest", 1, x.look(0, 0));
        due("the smallest", 15, x.look(0, 1));
        due("the smallest", 0, x.look(0, 2));
    }

    private void lookBanksOfBothColours() {
        sentence("11: banks as bits (1 north, 2 south, 4 west, 8 east; of both colours all):");
        for (int colour = 1; colour <= 2; colour++) {
            int[] banks = {5, 1, 1, 9, 4, 0, 0, 8, 4, 0, 0, 8, 6, 2, 2, 10};
            for (int f = 0; f < banks.length; f++) {
                TwoBanks x = made(4, 4);
                yes("set", x.set(f, colour, 1));
                due("banks of " + f, banks[f], x.look(f, 1));
            }
            for (int f = 0; f < 4; f++) {
                TwoBanks x = made(1, 4);
                yes("set", x.set(f, colour, 1));
                due("one row " + f, 3 + (f == 0 ? 4 : 0) + (f == 3 ? 8 : 0), x.look(f, 1));
                x = made(4, 1);
                yes("set", x.set(f, colour, 1));
                due("one column " + f, 12 + (f == 0 ? 1 : 0) + (f == 3 ? 2 : 0), x.look(f, 1));
            }
        }
    }

    private void joinedNobody() {
        sentence("12: 0 nobody (on an empty BOARD, and with STONES at one bank alone).");
        for (int[] side : SIDES) {
            due("empty", 0, made(side[0], side[1]).joined());
        }
        due("north bank", 0, told(1, "NNN", "...").joined());
        due("south bank", 0, told(1, "...", "NNN").joined());
        due("west bank", 0, told(1, "W.", "W.").joined());
        due("east bank", 0, told(1, ".W", ".W").joined());
        due("her stones from the west bank to the east bank", 0, told(1, "...", "NNN", "...").joined());
        due("his stones from the north bank to the south bank", 0, told(1, ".W.", ".W.", ".W.").joined());
    }

    private void joinedByOneStone() {
        sentence("12: Who has JOINED (one row, one column: one STONE is at both banks).");
        for (int side = 1; side <= 6; side++) {
            for (int f = 0; f < side; f++) {
                TwoBanks x = made(1, side);
                yes("set", x.set(f, 1, 1));
                due("hers in one row", 1, x.joined());
                yes("set", x.set(f, 2, 1));
                due("his in one row", side == 1 ? 2 : 0, x.joined());
                x = made(side, 1);
                yes("set", x.set(f, 2, 1));
                due("his in one column", 2, x.joined());
                yes("set", x.set(f, 1, 1));
                due("hers in one column", side == 1 ? 1 : 0, x.joined());
            }
        }
    }

    private void joinedOneStoneShort() {
        sentence("12: Who has JOINED (one STONE short: nobody).");
        for (int gap = 0; gap < 6; gap++) {
            TwoBanks x = made(6, 6);
            for (int i = 0; i < 6; i++) {
                yes("set", x.set(6 * i + 2, i == gap ? 0 : 1, 1));
            }
            due("north", 0, x.joined());
            yes("set", x.set(6 * gap + 2, 1, 1));
            due("north, all", 1, x.joined());
            x.change();
            due("west, all", 2, x.joined());
            yes("set", x.set(12 + gap, 0, 1));
            due("west", 0, x.joined());
        }
    }

    private void joinedOnAFullBoard() {
        sentence("12: Who has JOINED (on a full BOARD):");
        due("north", 1, told(1, FULL_NORTH).joined());
        due("west", 2, told(1, FULL_WEST).joined());
        due("all hers", 1, filled(6, 6, 1).joined());
        due("all his", 2, filled(6, 6, 2).joined());
        due("the smallest", 1, filled(1, 1, 1).joined());
        due("the smallest", 2, filled(1, 1, 2).joined());
    }

    private void wayNobody() {
        sentence("13: NONE: nobody has JOINED.");
        for (int[] side : SIDES) {
            TwoBanks x = made(side[0], side[1]);
            due("way 0", NONE, x.way(0));
            noWay(x);
        }
        TwoBanks x = told(1, "N..", "N..", "N..");
        due("she has", 0, x.way(0));
        yes("set away", x.set(3, 0, 1));
        due("she has no more", NONE, x.way(0));
        noWay(x);
        x = made(1, 3);
        due("lay", 2, x.lay(1));
        due("she has", 1, x.way(0));
        yes("undo", x.undo());
        due("undone", NONE, x.way(0));
        noWay(x);
    }

    private void noWay(TwoBanks x) {
        for (int i : NO_PLACES) {
            due("way " + i, NONE, x.way(i));
        }
        due("FIELDS of THE WAY", 0, x.count(9));
    }

    private void wayNoneSuch() {
        sentence("13: NONE: there is none such.");
        TwoBanks x = told(1, ".NN", ".N.", "NN.");
        due("the first", 1, x.way(0));
        due("the last", 6, x.way(2));
        due("behind the last", NONE, x.way(3));
        due("behind it", NONE, x.way(4));
        for (int i : NO_PLACES) {
            due("way " + i, NONE, x.way(i));
        }
        x.change();
        due("his first", 3, x.way(0));
        due("his last", 2, x.way(2));
        due("behind the last", NONE, x.way(3));
        due("ahead of the first", NONE, x.way(-1));
    }

    private void wayOfOneField() {
        sentence("13: FIELD i of THE WAY (of one FIELD, the least of like ones).");
        for (int side = 1; side <= 6; side++) {
            for (int f = 0; f < side; f++) {
                TwoBanks x = made(1, side);
                for (int g = f; g < side; g++) {
                    yes("set", x.set(g, 1, 1));
                }
                due("hers", f, x.way(0));
                due("behind it", NONE, x.way(1));
                due("how long", 1, x.count(9));
                x.change();
                due("his", f, x.way(0));
                due("behind it", NONE, x.way(1));
                due("how long", 1, x.count(9));
            }
        }
    }

    private void wayOfTheLargestBoard() {
        sentence("13: as few as can be, of like ones the least, FIELD by FIELD (the full BOARD, and a long way).");
        TwoBanks x = filled(6, 6, 1);
        for (int i = 0; i < 6; i++) {
            due("hers " + i, 6 * i, x.way(i));
        }
        due("behind the last", NONE, x.way(6));
        x = filled(6, 6, 2);
        for (int i = 0; i < 6; i++) {
            due("his " + i, i, x.way(i));
        }
        due("behind the last", NONE, x.way(6));
        x = told(1, "NNNNNN", "WWWWWN", "NNNNWN", "NWWNWN", "NWNNWN", "NWWWWN");
        int[] down = {5, 11, 17, 23, 29, 35};
        for (int i = 0; i < down.length; i++) {
            due("down the east bank " + i, down[i], x.way(i));
        }
        due("behind the last", NONE, x.way(6));
        tell(x, 1, "WWWWWN", "W.NNNN", "W.N...", "W.N.NN", "W.NNN.", "WWWW.N");
        due("she is one short", 0, x.joined());
        yes("set", x.set(34, 1, 1));
        int[] bends = {5, 10, 9, 14, 20, 26, 27, 28, 34};
        for (int i = 0; i < bends.length; i++) {
            due("round the bends " + i, bends[i], x.way(i));
        }
        due("behind the last", NONE, x.way(bends.length));
        due("how long", bends.length, x.count(9));
    }

    private void winnerNoSuchWho() {
        sentence("14: NONE: no such who.");
        for (String[] rows : new String[][] {BRIDGE, TEN, FULL_NORTH, FULL_WEST, {"."}, {"N"}}) {
            TwoBanks x = told(1, rows);
            for (int who : NO_COLOURS) {
                due("winner " + who, NONE, x.winner(who));
            }
        }
    }

    private void winnerTooManyEmpty() {
        sentence("14: NONE: more than 10 FIELDS are empty.");
        for (String[] rows : new String[][] {ELEVEN, LARGE_ELEVEN}) {
            TwoBanks x = told(1, rows);
            due("eleven", 11, x.count(2));
            due("winner 1", NONE, x.winner(1));
            due("winner 2", NONE, x.winner(2));
        }
        TwoBanks x = made(6, 6);
        due("thirty-six", NONE, x.winner(1));
        x = told(1, TEN);
        due("ten", 10, x.count(2));
        due("winner 1", 2, x.winner(1));
        due("winner 2", 2, x.winner(2));
        x = told(1, LARGE_TEN);
        due("ten", 10, x.count(2));
        due("winner 1", 1, x.winner(1));
        due("winner 2", 1, x.winner(2));
        yes("the eleventh", x.set(1, 0, 1));
        due("winner 1", NONE, x.winner(1));
        yes("ten again", x.set(1, 1, 1));
        due("winner 2", 1, x.winner(2));
        due("an empty board of ten", 1, made(2, 5).winner(2));
        due("an empty board of ten", 2, made(5, 2).winner(1));
    }

    private void winnerFullBoard() {
        sentence("14: WHO WINS (on a full BOARD: who has JOINED).");
        for (int who = 1; who <= 2; who++) {
            due("north has", 1, told(1, FULL_NORTH).winner(who));
            due("west has", 2, told(1, FULL_WEST).winner(who));
            due("all hers", 1, filled(6, 6, 1).winner(who));
            due("all his", 2, filled(6, 6, 2).winner(who));
        }
    }

    private void winnerJoined() {
        sentence("14: WHO WINS (where one has JOINED, that one).");
        for (int who = 1; who <= 2; who++) {
            due("north has", 1, told(1, "N..", "N..", "N..").winner(who));
            due("west has", 2, told(1, "...", "WWW", "...").winner(who));
        }
    }

    private void winnerOneField() {
        sentence("14: WHO WINS if NORTH (or WEST) is to lay (whoever is, on the BOARD; one FIELD is left).");
        for (int toLay = 1; toLay <= 2; toLay++) {
            TwoBanks x = told(toLay, ".");
            due("winner 1", 1, x.winner(1));
            due("winner 2", 2, x.winner(2));
            x = told(toLay, "NW", ".N");
            due("her last", 1, x.winner(1));
            due("his last", 2, x.winner(2));
            due("to lay, as before", toLay, x.count(3));
        }
    }

    private void firstNoSuchWho() {
        sentence("15: NONE: as winner() (no such who).");
        for (String[] rows : new String[][] {BRIDGE, TEN, {"."}, {"N..", "N..", "N.."}, {"...", "WWW", "..."}}) {
            TwoBanks x = told(1, rows);
            for (int who : NO_COLOURS) {
                due("first " + who + " 0", NONE, x.first(who, 0));
            }
        }
    }

    private void firstTooManyEmpty() {
        sentence("15: NONE: as winner() (more than 10 FIELDS are empty).");
        TwoBanks x = told(1, LARGE_ELEVEN);
        for (int i = 0; i < 11; i++) {
            due("eleven, first 1 " + i, NONE, x.first(1, i));
            due("eleven, first 2 " + i, NONE, x.first(2, i));
        }
        due("thirty-six", NONE, made(6, 6).first(1, 0));
        due("eleven", NONE, told(1, ELEVEN).first(1, 0));
        due("ten", 2, told(1, TEN).first(2, 0));
        due("ten", NONE, told(1, TEN).first(1, 0));
        x = told(1, LARGE_TEN);
        int[] empty = {25, 26, 27, 28, 29, 31, 32, 33, 34, 35};
        for (int i = 0; i < empty.length; i++) {
            due("ten, first 1 " + i, empty[i], x.first(1, i));
            due("ten, first 2 " + i, NONE, x.first(2, i));
        }
        due("behind the last", NONE, x.first(1, 10));
    }

    private void firstNoneSuch() {
        sentence("15: NONE: there is none such.");
        TwoBanks x = told(1, "..N", "W..", "..W");
        for (int who = 1; who <= 2; who++) {
            due("the first", 4, x.first(who, 0));
            due("the last", 7, x.first(who, 1));
            due("behind the last", NONE, x.first(who, 2));
            due("as many as empty fields", NONE, x.first(who, 6));
            for (int i : NO_PLACES) {
                due("first " + who + " " + i, NONE, x.first(who, i));
            }
        }
    }

    private void firstFullBoard() {
        sentence("15: NONE: there is none such (on a full BOARD).");
        for (int who = 1; who <= 2; who++) {
            for (int i = -1; i <= 1; i++) {
                due("north has", NONE, told(1, FULL_NORTH).first(who, i));
                due("west has", NONE, told(1, FULL_WEST).first(who, i));
                due("the smallest", NONE, told(1, "N").first(who, i));
            }
        }
        due("one field is left", 0, told(1, ".").first(1, 0));
        due("behind it", NONE, told(1, ".").first(1, 1));
        due("one field is left", 0, told(1, ".").first(2, 0));
        due("its number is its own", 2, told(1, "NW", ".N").first(2, 0));
        due("behind it", NONE, told(1, "NW", ".N").first(2, 1));
    }

    private void firstJoined() {
        sentence("15: WINNING FIRST FIELDS (where one has JOINED: all empty ones of hers, none of his).");
        TwoBanks x = told(1, "N..", "N..", "N..");
        int[] empty = {1, 2, 4, 5, 7, 8};
        for (int i = 0; i < empty.length; i++) {
            due("north " + i, empty[i], x.first(1, i));
            due("west " + i, NONE, x.first(2, i));
        }
        due("behind the last", NONE, x.first(1, 6));
    }

    private void fillingsTooManyEmpty() {
        sentence("16: NONE: more than 10 FIELDS are empty.");
        due("eleven", NONE, told(1, ELEVEN).fillings());
        due("eleven", NONE, told(1, LARGE_ELEVEN).fillings());
        due("twelve", NONE, made(3, 4).fillings());
        due("thirty-six", NONE, made(6, 6).fillings());
        due("ten", 375, told(1, TEN).fillings());
        due("ten", 1024, told(1, LARGE_TEN).fillings());
        due("ten", 880, made(2, 5).fillings());
        due("ten", 144, made(5, 2).fillings());
        TwoBanks x = told(1, TEN);
        yes("the eleventh", x.set(1, 0, 1));
        due("eleven", NONE, x.fillings());
        lays(x, 2);
        yes("ten", x.fillings() != NONE);
        yes("undo", x.undo());
        due("eleven", NONE, x.fillings());
    }

    private void fillingsFullBoard() {
        sentence("16: How many FILLINGS NORTH has JOINED (on a full BOARD: 1 or 0).");
        due("north has", 1, told(1, FULL_NORTH).fillings());
        due("west has", 0, told(1, FULL_WEST).fillings());
        due("the smallest", 1, told(1, "N").fillings());
        due("the smallest", 0, told(1, "W").fillings());
        due("the largest", 1, filled(6, 6, 1).fillings());
        due("the largest", 0, filled(6, 6, 2).fillings());
    }

    private void fillingsAllAndNone() {
        sentence("16: How many FILLINGS NORTH has JOINED (all, none, all but one).");
        due("all", 64, told(1, "N..", "N..", "N..").fillings());
        due("none", 0, told(1, "...", "WWW", "...").fillings());
        for (int side = 1; side <= 6; side++) {
            due("one row: all but one", (1 << side) - 1, made(1, side).fillings());
            due("one column: one", 1, made(side, 1).fillings());
        }
    }

    private void deadNoSuchField() {
        sentence("17: NONE: no such FIELD.");
        for (String[] rows : new String[][] {{"."}, {"......"}, BRIDGE, TEN, LARGE_TEN, FULL_NORTH}) {
            TwoBanks x = told(1, rows);
            for (int f : noFields(rows.length * rows[0].length())) {
                due("dead " + f, NONE, x.dead(f));
            }
        }
    }

    private void deadNotEmpty() {
        sentence("17: NONE: it is not empty.");
        TwoBanks x = told(1, "NW", "..");
        due("hers", NONE, x.dead(0));
        due("his", NONE, x.dead(1));
        due("empty", 0, x.dead(2));
        lays(x, 3);
        due("laid", NONE, x.dead(3));
        for (int f = 0; f < 9; f++) {
            due("full " + f, NONE, told(1, FULL_NORTH).dead(f));
            due("full " + f, NONE, told(1, FULL_WEST).dead(f));
        }
    }

    private void deadTooManyEmpty() {
        sentence("17: NONE: more than 10 are (empty).");
        TwoBanks x = told(1, LARGE_ELEVEN);
        for (int f = 0; f < 36; f++) {
            due("eleven " + f, NONE, x.dead(f));
        }
        due("thirty-six", NONE, made(6, 6).dead(0));
        due("eleven", NONE, told(1, ELEVEN).dead(11));
        due("ten", 0, told(1, TEN).dead(11));
        x = told(1, LARGE_TEN);
        due("ten", 1, x.dead(25));
        due("ten", 1, x.dead(35));
        due("not empty", NONE, x.dead(30));
    }

    private void deadAllAndNone() {
        sentence("17: Whether FIELD f is DEAD: 1, 0:");
        for (int f = 0; f < 9; f++) {
            due("empty, none", 0, new TwoBanks().dead(f));
        }
        TwoBanks x = told(1, "...", "WWW", "...");
        for (int f : new int[] {0, 1, 2, 6, 7, 8}) {
            due("joined, all", 1, x.dead(f));
        }
        due("the only field", 0, told(1, ".").dead(0));
        x = told(1, ".N.", "W..", "...");
        due("in the corner", 1, x.dead(0));
        due("open", 0, x.dead(2));
    }

    private void linkNoSuchColour() {
        sentence("18: NONE: no such colour.");
        TwoBanks x = told(1, "N.N", "...", "W.W");
        for (int colour : NO_COLOURS) {
            due("both empty, of " + colour, NONE, x.link(colour, 3, 4));
            due("hers, of " + colour, NONE, x.link(colour, 0, 2));
            due("his, of " + colour, NONE, x.link(colour, 6, 8));
            due("full, of " + colour, NONE, filled(2, 2, 1).link(colour, 0, 3));
        }
    }

    private void linkNoSuchFields() {
        sentence("18: NONE: no such FIELDS.");
        for (String[] rows : new String[][] {{"."}, {"NN"}, BRIDGE, TEN, {"WW", "WW"}}) {
            TwoBanks x = told(1, rows);
            for (int f : noFields(rows.length * rows[0].length())) {
                for (int colour = 1; colour <= 2; colour++) {
                    due("a is " + f, NONE, x.link(colour, f, 0));
                    due("b is " + f, NONE, x.link(colour, 0, f));
                    due("both are " + f, NONE, x.link(colour, f, f));
                    due("both are none", NONE, x.link(colour, f, -1));
                }
            }
        }
    }

    private void linkOneAndTheSame() {
        sentence("18: NONE: FIELDS (one and the same).");
        TwoBanks x = told(1, "N.W", "...");
        for (int f = 0; f < 6; f++) {
            due("north " + f, NONE, x.link(1, f, f));
            due("west " + f, NONE, x.link(2, f, f));
        }
        due("the only field", NONE, told(1, "N").link(1, 0, 0));
        due("the only field", NONE, told(1, ".").link(1, 0, 0));
        due("two fields", 1, x.link(1, 0, 1));
    }

    private void linkOtherColour() {
        sentence("18: NONE: one has a STONE of the other colour.");
        TwoBanks x = told(1, "N.W", "...", "W.N");
        int[][] north = {{0, 2}, {1, 2}, {0, 6}, {4, 6}, {2, 6}};
        int[][] west = {{2, 0}, {1, 0}, {6, 8}, {4, 8}, {0, 8}};
        for (int[] pair : north) {
            linkIs(x, NONE, 1, pair[0], pair[1]);
        }
        for (int[] pair : west) {
            linkIs(x, NONE, 2, pair[0], pair[1]);
        }
        yes("not in the way", x.link(1, 0, 8) != NONE && x.link(2, 2, 6) != NONE);
        yes("hers and empty", x.link(1, 0, 4) != NONE && x.link(2, 6, 4) != NONE);
        linkIs(filled(2, 2, 2), NONE, 1, 0, 3);
    }

    private void linkTooManyEmpty() {
        sentence("18: NONE: more than 10 are empty.");
        TwoBanks x = told(1, LARGE_ELEVEN);
        linkIs(x, NONE, 1, 0, 6);
        linkIs(x, NONE, 2, 1, 2);
        linkIs(x, NONE, 1, 25, 26);
        x = told(1, LARGE_TEN);
        linkIs(x, 2, 1, 0, 30);
        linkIs(x, 2, 2, 1, 23);
        linkIs(x, 1, 1, 25, 24);
        linkIs(made(6, 6), NONE, 1, 0, 1);
        linkIs(told(1, ELEVEN), NONE, 1, 0, 1);
        linkIs(told(1, TEN), 1, 1, 0, 3);
        linkIs(made(2, 5), 0, 1, 0, 9);
    }

    private void linkEmptyOrOwn() {
        sentence("18: between two FIELDS that have STONES of it, or are empty:");
        TwoBanks x = told(1, "N.N");
        linkIs(x, 1, 1, 0, 2);
        linkIs(x, 1, 1, 0, 1);
        x = told(1, "NN.");
        linkIs(x, 2, 1, 0, 1);
        linkIs(x, 1, 1, 0, 2);
        x = told(1, "..");
        linkIs(x, 0, 1, 0, 1);
        linkIs(x, 0, 2, 0, 1);
        x = told(1, BRIDGE);
        linkIs(x, 2, 1, 0, 3);
        linkIs(x, 1, 1, 0, 1);
        linkIs(x, 1, 1, 2, 3);
        linkIs(x, 0, 1, 1, 2);
        linkIs(x, 0, 2, 1, 2);
        x = told(1, "W.", "..");
        linkIs(x, 1, 2, 0, 1);
        linkIs(x, 1, 2, 0, 3);
        linkIs(x, 0, 1, 1, 2);
    }

    private void linkFullBoard() {
        sentence("18: till the BOARD is full (a full one: 2 or 0):");
        TwoBanks x = told(1, FULL_WEST);
        linkIs(x, 2, 1, 0, 1);
        linkIs(x, 0, 1, 0, 8);
        linkIs(x, 2, 1, 5, 8);
        linkIs(x, 2, 2, 2, 3);
        linkIs(x, 2, 2, 2, 6);
        x = filled(6, 6, 1);
        linkIs(x, 2, 1, 0, 35);
        linkIs(x, 2, 1, 5, 30);
        linkIs(told(1, "NW", "WN"), 0, 1, 0, 3);
        linkIs(told(1, "NW", "WN"), 2, 2, 1, 2);
    }

    private void linkJoinedIsNotAsked() {
        sentence("18: (Whether somebody has JOINED is not asked there.)");
        TwoBanks x = told(1, "N.N", "N..", "N..");
        due("joined", 1, x.joined());
        linkIs(x, 1, 1, 0, 5);
        linkIs(x, 2, 1, 0, 6);
        linkIs(x, 0, 2, 1, 4);
        x = told(1, "WWW", "...", "W.W");
        due("joined", 2, x.joined());
        linkIs(x, 2, 2, 6, 8);
        linkIs(x, 0, 1, 3, 4);
        linkIs(x, 0, 1, 3, 5);
    }

    private void halfNoneSuch() {
        sentence("19: NONE: there is none such.");
        TwoBanks x = told(1, "N.N", "..N", "W.W");
        int[] halves = {1, 3, 4};
        for (int i = 0; i < halves.length; i++) {
            due("half " + i, halves[i], x.half(1, 0, 2, i));
            due("the other way about " + i, halves[i], x.half(1, 2, 0, i));
        }
        due("behind the last", NONE, x.half(1, 0, 2, 3));
        due("as many as empty fields", NONE, x.half(1, 0, 2, 4));
        for (int i : NO_PLACES) {
            due("half " + i, NONE, x.half(1, 0, 2, i));
        }
    }

    private void halfIsNoHalf() {
        sentence("19: NONE: it is no HALF.");
        TwoBanks x = told(1, BRIDGE);
        for (int i = -1; i <= 2; i++) {
            due("a link " + i, NONE, x.half(1, 0, 3, i));
            due("neither " + i, NONE, x.half(1, 1, 2, i));
            due("neither " + i, NONE, x.half(2, 1, 2, i));
            due("one group " + i, NONE, told(1, "NN.").half(1, 0, 1, i));
            due("full, a link " + i, NONE, told(1, "NW", "WN").half(2, 1, 2, i));
            due("full, neither " + i, NONE, told(1, "NW", "WN").half(1, 0, 3, i));
        }
    }

    private void halfAtItsEnds() {
        sentence("19: (laid there; one that is a or b, too):");
        TwoBanks x = told(1, "NN.");
        due("b", 2, x.half(1, 0, 2, 0));
        due("a", 2, x.half(1, 2, 0, 0));
        due("behind it", NONE, x.half(1, 0, 2, 1));
        x = told(1, "N.N");
        due("between them", 1, x.half(1, 0, 2, 0));
        due("behind it", NONE, x.half(1, 0, 2, 1));
        x = told(1, BRIDGE);
        due("the first field", 1, x.half(1, 0, 1, 0));
        due("behind it", NONE, x.half(1, 0, 1, 1));
        x = told(1, ".N", "N.");
        due("it is the lowest", 0, x.half(1, 0, 1, 0));
        due("it is the highest", 3, x.half(1, 3, 1, 0));
        yes("laid there", x.set(3, 1, 1));
        due("it is a link", 2, x.link(1, 3, 1));
    }

    private void halfAsLink() {
        sentence("19: NONE: as link().");
        TwoBanks x = told(1, "N.N", "...", "W.W");
        for (int colour : NO_COLOURS) {
            due("no such colour " + colour, NONE, x.half(colour, 0, 1, 0));
        }
        for (int f : noFields(9)) {
            due("no such a " + f, NONE, x.half(1, f, 0, 0));
            due("no such b " + f, NONE, x.half(1, 0, f, 0));
            due("both " + f, NONE, x.half(1, f, f, 0));
        }
        for (int f = 0; f < 9; f++) {
            due("one and the same " + f, NONE, x.half(1, f, f, 0));
        }
        due("the other's b", NONE, x.half(1, 0, 6, 0));
        due("the other's a", NONE, x.half(1, 6, 0, 0));
        due("the other's", NONE, x.half(2, 6, 0, 0));
        due("both the other's", NONE, x.half(2, 0, 2, 0));
        due("a half", 1, x.half(1, 0, 1, 0));
    }

    private void halfTooManyEmpty() {
        sentence("19: NONE: as link() (more than 10 are empty).");
        due("eleven", NONE, told(1, LARGE_ELEVEN).half(1, 25, 24, 0));
        due("ten", 25, told(1, LARGE_TEN).half(1, 25, 24, 0));
        due("eleven", NONE, told(1, ELEVEN).half(1, 0, 3, 0));
        due("ten", 3, told(1, TEN).half(1, 0, 3, 0));
        due("thirty-six", NONE, made(6, 6).half(1, 0, 1, 0));
    }

    private void countAnother() {
        sentence("20: NONE for others.");
        for (String[] rows : new String[][] {{"."}, TEN, ELEVEN, FULL_NORTH, LARGE_TEN}) {
            TwoBanks x = told(1, rows);
            for (int what : new int[] {10, -1, 11, -2, 12, 64, 256, 265, LEAST, LEAST + 1, MOST}) {
                due("count " + what, NONE, x.count(what));
            }
            for (int what = 0; what <= 9; what++) {
                if (what != 8) {
                    yes("count " + what, x.count(what) >= 0);
                }
            }
        }
    }

    private void countSides() {
        sentence("20: 0 rows, 1 columns:");
        TwoBanks x = made(1, 6);
        due("rows", 1, x.count(0));
        due("columns", 6, x.count(1));
        x.change();
        due("rows, changed over", 6, x.count(0));
        due("columns, changed over", 1, x.count(1));
        no("refused", x.board(7, 2));
        due("rows, refused", 6, x.count(0));
        due("columns, refused", 1, x.count(1));
    }

    private void countEmpty() {
        sentence("20: 2 empty FIELDS (none, all):");
        for (int rows = 1; rows <= 6; rows++) {
            for (int columns = 1; columns <= 6; columns++) {
                due("all", rows * columns, made(rows, columns).count(2));
                due("none", 0, filled(rows, columns, 1).count(2));
                due("none", 0, filled(rows, columns, 2).count(2));
            }
        }
    }

    private void countDone() {
        sentence("20: 4 STONES and SWAPS done, 5 that can be done again:");
        TwoBanks x = made(6, 6);
        stands(x, "none", 0, 0, 1);
        lays(x, 1);
        yes("swap", x.swap());
        stands(x, "a stone and a swap", 2, 0, 1);
        due("lay refused", NONE, x.lay(6));
        no("swap refused", x.swap());
        stands(x, "what was refused is not done", 2, 0, 1);
        lays(x, 0);
        yes("undo", x.undo());
        yes("undo", x.undo());
        stands(x, "undone", 1, 2, 2);
        lays(x, 35);
        stands(x, "nothing can be done again behind it", 2, 0, 1);
        yes("a stone set is not done", x.set(7, 1, 1));
        stands(x, "set", 0, 0, 1);
    }

    private void countGroups() {
        sentence("20: 6 GROUPS of NORTH, 7 of WEST (none, one of all, as many as can be):");
        TwoBanks x = made(6, 6);
        groupsAre(x, 0, 0);
        groupsAre(filled(6, 6, 1), 1, 0);
        groupsAre(filled(6, 6, 2), 0, 1);
        groupsAre(filled(1, 1, 1), 1, 0);
        for (int colour = 1; colour <= 2; colour++) {
            x = made(6, 6);
            for (int f = 0; f < 36; f++) {
                if ((f / 6 + 2 * (f % 6)) % 3 == 0) {
                    yes("set", x.set(f, colour, 1));
                }
            }
            groupsAre(x, colour == 1 ? 12 : 0, colour == 2 ? 12 : 0);
        }
        groupsAre(told(1, "NWNWNW"), 3, 3);
        groupsAre(told(1, "N", "W", "N", "W", "N"), 3, 2);
    }

    private void groupsAre(TwoBanks x, int north, int west) {
        due("of north", north, x.count(6));
        due("of west", west, x.count(7));
    }

    private void countDead() {
        sentence("20: 8 DEAD FIELDS (NONE: more than 10 are empty):");
        due("eleven", NONE, told(1, ELEVEN).count(8));
        due("eleven, all of them dead", NONE, told(1, LARGE_ELEVEN).count(8));
        due("thirty-six", NONE, made(6, 6).count(8));
        due("ten, all dead", 10, told(1, LARGE_TEN).count(8));
        due("ten, none dead", 0, told(1, TEN).count(8));
        due("full", 0, told(1, FULL_NORTH).count(8));
        due("full", 0, told(1, FULL_WEST).count(8));
        due("the only field", 0, told(1, ".").count(8));
        due("one in the corner", 1, told(1, ".N.", "W..", "...").count(8));
    }

    private void countWay() {
        sentence("20: 9 FIELDS of THE WAY (0):");
        due("nobody", 0, made(6, 6).count(9));
        due("one field", 1, told(1, "N").count(9));
        due("one field", 1, told(1, "W").count(9));
        due("six", 6, told(1, LARGE_TEN).count(9));
        TwoBanks x = told(1, "N.", "N.");
        due("two", 2, x.count(9));
        yes("set away", x.set(0, 0, 1));
        due("nobody any more", 0, x.count(9));
    }

    private TwoBanks filled(int rows, int columns, int colour) {
        TwoBanks x = made(rows, columns);
        for (int f = 0; f < rows * columns; f++) {
            yes("set " + f, x.set(f, colour, 1));
        }
        return x;
    }

    private void linkIs(TwoBanks x, int want, int colour, int a, int b) {
        due("link " + colour + " " + a + " " + b, want, x.link(colour, a, b));
        due("link " + colour + " " + b + " " + a, want, x.link(colour, b, a));
    }
}
