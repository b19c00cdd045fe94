import java.math.BigInteger;

/** The edges of boards, draws and pushes: "Boards" and "Draws" of the terms, and the promises 4 to 9. */
final class BoardEdges extends Edges {
    private static final int[] NO_WAY = {Integer.MIN_VALUE, -1, 4, Integer.MAX_VALUE};
    private static final int[] NO_LINE = {Integer.MIN_VALUE, -1, 3, Integer.MAX_VALUE};
    private static final BigInteger TIMES = BigInteger.valueOf(1103515245);
    private static final BigInteger PLUS = BigInteger.valueOf(12345);
    private static final BigInteger MODULUS = BigInteger.valueOf(2147483648L);
    private static final int LARGEST_Z = 2147483647;
    /** From the seed 5, these pushes end a game with a tile that is worth 256. */
    private static final String LONG_GAME =
            "000001001021101210001021000121210110011001030011020111100213010110211230211100201000101320"
            + "123032020111112032320102121012300310013000011300111000101101011321010211031011100003000";

    BoardEdges(Checks checks) {
        super(checks);
    }

    // ---- boards

    @Sentence(of = "Terms", says = "A board has 3 rows of 3 cells; the row 0 is above, the column 0 left.")
    private void boardsRow0IsAboveAndColumn0IsLeft() {
        TileWarden house = Houses.oneGame(0);
        checks.same("above and left", 1, house.at(0, 0, 0));
        checks.same("in the middle and right", 1, house.at(0, 1, 2));
        checks.same("what goes up stands in the row 0", "101", Houses.board(goneBy(0, 0), 0).substring(0, 3));
        checks.same("what goes down stands in the row 2", "101", Houses.board(goneBy(0, 2), 0).substring(8));
        TileWarden left = goneBy(0, 3);
        checks.same("what goes left stands in the column 0", 2, left.at(0, 0, 0) + left.at(0, 1, 0));
        TileWarden right = goneBy(0, 1);
        checks.same("what goes right stands in the column 2", 2, right.at(0, 0, 2) + right.at(0, 1, 2));
    }

    private static TileWarden goneBy(int seed, int to) {
        return Houses.gone(seed, to);
    }

    @Sentence(of = "Terms",
            says = "A cell is empty, 0, or has a tile from 1 on, which is worth 2 to the power of it.")
    private void boardsTileFrom1IsWorth2ToThePowerOfIt() {
        pushed("two of the smallest make one worth 4", 2, "", "000 000 011", 1, 4, "000 001 002");
        pushed("two of 2 make one worth 8", 16, "3", "000 000 202", 1, 8, "001 000 003");
        pushed("two of 3 make one worth 16", 25, "00120", "033 010 000", 1, 16, "004 001 001");
        TileWarden house = Houses.gone(5, Houses.ways(LONG_GAME.substring(0, 129)));
        checks.same("two of 7 make one worth 256, and with 16 and 4", 276,
                house.push(0, LONG_GAME.charAt(129) - '0'));
        checks.same("it is the tile 8", "482 200 010", Houses.board(house, 0));
    }

    @Sentence(of = "Terms", says = "A push goes up, 0, right, 1, down, 2, or left, 3")
    private void boardsWaysAreUpRightDownLeft() {
        pushed("up", 0, "", "100 001 000", 0, 0, "101 000 010");
        pushed("right", 0, "", "100 001 000", 1, 0, "001 001 010");
        pushed("down", 0, "", "100 001 000", 2, 0, "000 001 101");
        pushed("left", 0, "", "100 001 000", 3, 0, "100 100 010");
    }

    @Sentence(of = "Terms", says = "in each column or row, tiles go as far as they can")
    private void boardsTilesGoAsFarAsTheyCan() {
        pushed("up over two cells", 1, "", "010 000 001", 0, 0, "011 000 001");
        pushed("right over two cells", 0, "", "100 001 000", 1, 0, "001 001 010");
        pushed("down over two cells", 0, "", "100 001 000", 2, 0, "000 001 101");
        pushed("left over two cells", 0, "", "100 001 000", 3, 0, "100 100 010");
        pushed("up to a tile that stops them", 32, "1", "001 002 010", 0, 0, "011 102 000");
        pushed("right, both of a row", 21, "0", "021 200 000", 1, 0, "021 002 100");
        pushed("down, both of a column", 10, "1", "000 102 001", 2, 0, "001 002 101");
        pushed("left, both of a row", 24, "0", "120 010 000", 3, 0, "120 100 001");
    }

    @Sentence(of = "Terms", says = "two of the same that come next to each other become one that is greater by 1")
    private void boardsTwoOfTheSameBecomeOne() {
        pushed("up over a gap", 34, "", "001 000 001", 0, 4, "002 000 010");
        pushed("up side by side, at the side", 26, "", "010 010 000", 0, 4, "020 010 000");
        pushed("up side by side, off the side", 3, "", "000 001 001", 0, 4, "002 000 010");
        pushed("right over a gap", 6, "", "000 000 101", 1, 4, "001 000 002");
        pushed("right side by side, at the side", 2, "", "000 000 011", 1, 4, "000 001 002");
        pushed("right side by side, off the side", 13, "", "000 000 110", 1, 4, "000 100 002");
        pushed("down over a gap", 34, "", "001 000 001", 2, 4, "000 000 102");
        pushed("down side by side, at the side", 3, "", "000 001 001", 2, 4, "000 000 102");
        pushed("down side by side, off the side", 26, "", "010 010 000", 2, 4, "000 100 020");
        pushed("left over a gap", 6, "", "000 000 101", 3, 4, "001 000 200");
        pushed("left side by side, at the side", 13, "", "000 000 110", 3, 4, "000 100 200");
        pushed("left side by side, off the side", 2, "", "000 000 011", 3, 4, "000 001 200");
    }

    @Sentence(of = "Terms", says = "two of the same that come next to each other become one that is greater by 1")
    private void boardsOthersStayApart() {
        pushed("a greater one between them", 17, "33", "000 100 121", 1, 0, "001 001 121");
        pushed("a greater one between them, in a column", 10, "02", "001 002 011", 0, 0, "211 002 001");
        pushed("two that are not the same", 21, "0", "021 200 000", 1, 0, "021 002 100");
        pushed("two that are not the same, in a column", 10, "1", "000 102 001", 2, 0, "001 002 101");
    }

    @Sentence(of = "Terms", says = "from the side to which they go, two of the same that come next to each other")
    private void boardsThreeOfTheSameMergeFromTheSide() {
        pushed("up", 3, "3", "100 100 100", 0, 4, "201 100 000");
        pushed("right", 1, "2", "000 000 111", 1, 4, "010 000 012");
        pushed("down", 3, "3", "100 100 100", 2, 4, "010 100 200");
        pushed("left", 1, "2", "000 000 111", 3, 4, "010 000 210");
    }

    @Sentence(of = "Terms", says = "which does not merge again in this push")
    private void boardsWhatHasMergedDoesNotMergeAgain() {
        pushed("up, with one that comes behind", 88, "3", "100 100 200", 0, 4, "200 201 000");
        pushed("up, with one that stands ahead", 103, "1", "002 001 001", 0, 4, "002 002 010");
        pushed("right, with one that comes behind", 48, "3", "000 000 211", 1, 4, "000 000 122");
        pushed("right, with one that stands ahead", 51, "0", "112 000 000", 1, 4, "022 000 001");
        pushed("down, with one that comes behind", 103, "1", "002 001 001", 2, 4, "000 002 102");
        pushed("down, with one that stands ahead", 88, "3", "100 100 200", 2, 4, "000 210 200");
        pushed("left, with one that comes behind", 51, "0", "112 000 000", 3, 4, "220 000 001");
        pushed("left, with one that stands ahead", 48, "3", "000 000 211", 3, 4, "000 000 221");
    }

    @Sentence(of = "Terms", says = "Its gain is the sum of the worths of those that came of two.")
    private void boardsGainIsTheSumOfWhatCameOfTwo() {
        pushed("none", 0, "", "100 001 000", 0, 0, "101 000 010");
        pushed("one", 2, "", "000 000 011", 1, 4, "000 001 002");
        pushed("two alike", 15, "201", "012 011 001", 0, 8, "022 002 001");
        pushed("two", 21, "23", "200 010 210", 0, 12, "320 000 100");
        pushed("three, one in each column", 50, "00023023", "002 310 312", 0, 28, "423 200 000");
        pushed("three, one in each row", 10, "3132", "101 220 110", 1, 16, "002 103 002");
        pushed("three, one in each row of a full board", 50, "1021020", "111 222 111", 3, 16, "210 320 212");
    }

    @Sentence(of = "Terms", says = "A push can be done if it changes something.")
    private void boardsPushCanBeDoneIfItChangesSomething() {
        canGo("each way", 0, "", "100 001 000", "0123");
        canGo("not down, where they are already", 2, "", "000 000 011", "013");
        canGo("up alone", 17, "2", "000 000 121", "0");
        canGo("right alone", 17, "03", "200 100 200", "1");
        canGo("down alone", 49, "01", "121 000 000", "2");
        canGo("left alone", 24, "1", "001 002 001", "3");
        canGo("into the last empty cell, right and down", 33, "1303020", "212 121 210", "12");
        canGo("into the last empty cell, up and right", 33, "1303232", "120 212 121", "01");
        canGo("full, with merges in rows alone", 50, "1021020", "111 222 111", "13");
        canGo("full, with merges in columns alone", 50, "1021123", "121 121 121", "02");
        canGo("full, with merges each way", 50, "0301202", "111 212 121", "0123");
        canGo("full, without merges", 33, "12030131", "121 212 121", "");
    }

    private void canGo(String what, int seed, String path, String board, String ways) {
        TileWarden house = Houses.gone(seed, Houses.ways(path));
        checks.same(what + ", board", board, Houses.board(house, 0));
        for (int to = 0; to < 4; to++) {
            int way = to;
            boolean due = ways.indexOf('0' + to) >= 0;
            checks.same(what + ", way " + to, due, house.canPush(0, to));
            if (!due) {
                checks.refused(what + ", push " + to, UNSUPPORTED, () -> house.push(0, way));
            }
        }
        checks.same(what + ", over", ways.isEmpty(), house.isOver(0));
        for (int i = 0; i < ways.length(); i++) {
            TileWarden pushed = Houses.gone(seed, Houses.ways(path + ways.charAt(i)));
            checks.same(what + ", pushed " + ways.charAt(i), path.length() + 1, pushed.pushes(0));
        }
    }

    @Sentence(of = "Terms", says = "Behind a push, a tile is drawn.")
    private void boardsBehindAPushATileIsDrawn() {
        pushed("on an all but empty board", 2, "", "000 000 011", 1, 4, "000 001 002");
        pushed("into the last empty cell, the first one", 10, "1202020", "211 022 111", 2, 0, "111 222 111");
        pushed("into the last empty cell, the last one", 50, "102131", "121 121 021", 3, 0, "121 121 211");
        pushed("into the cell that a merge on a full board has left", 50, "0301202", "111 212 121", 0, 4,
                "121 222 121");
    }

    // ---- draws

    @Sentence(of = "Terms", says = "A game has a number z, its seed at first.")
    private void drawsZIsTheSeedAtFirst() {
        checks.same("the smallest seed", "100 001 000", Houses.board(Houses.oneGame(0), 0));
        checks.same("the next one", "010 000 001", Houses.board(Houses.oneGame(1), 0));
        checks.same("the largest seed", "000 000 101", Houses.board(Houses.oneGame(LARGEST_Z), 0));
        TileWarden house = Houses.oneGame(1);
        house.push(0, 0);
        house.open(0, 0);
        checks.same("each game has its own", "100 001 000", Houses.board(house, 1));
        house.push(0, 2);
        checks.same("and goes on with it", Houses.board(Houses.gone(1, 0, 2), 0), Houses.board(house, 0));
    }

    @Sentence(of = "Terms", says = "Drawing makes z into z times 1103515245 plus 12345, modulo 2147483648")
    private void drawsZWrapsAround() {
        int[] around = {0, 1, 2, 65535, 65536, 1 << 30, (1 << 30) - 1, LARGEST_Z - 1, LARGEST_Z,
            before(0), before(LARGEST_Z), before(before(0)), before(before(LARGEST_Z)),
            before(before(before(0))), before(before(before(LARGEST_Z)))};
        for (int seed : around) {
            startsAsDue(seed);
        }
        for (int power = 1; power < 31; power++) {
            startsAsDue(1 << power);
            startsAsDue((1 << power) - 1);
        }
    }

    @Sentence(of = "Terms", says = "z divided by 65536, rounded down, modulo the number of empty cells, "
            + "is which of them, row by row from the left, gets the tile")
    private void drawsPlaceOnTheEmptyBoard() {
        firstTileAt("the smallest z", 0, 0);
        firstTileAt("the largest z with the quotient 0", 65535, 0);
        firstTileAt("the quotient 1", 65536, 1);
        firstTileAt("the quotient 2, the last of the first row", 2 * 65536, 2);
        firstTileAt("the quotient 3, the first of the second row", 3 * 65536, 3);
        firstTileAt("the quotient 8, the last cell", 8 * 65536, 8);
        firstTileAt("at the end of the quotient 8", 9 * 65536 - 1, 8);
        firstTileAt("the quotient 9, the first cell again", 9 * 65536, 0);
        firstTileAt("the largest z, the quotient 32767", LARGEST_Z, 7);
        firstTileAt("the quotient 32759, the last cell once more", 32759 * 65536, 8);
    }

    @Sentence(of = "Terms", says = "modulo the number of empty cells, is which of them, row by row from the left")
    private void drawsPlaceAmongTheEmptyCells() {
        secondTileAt("the first of eight", 0, 0);
        secondTileAt("the last of eight", 7 * 65536, 7);
        secondTileAt("the first again", 8 * 65536, 0);
        secondTileAt("the largest z", LARGEST_Z, 32767 % 8);
        pushed("the only one", 50, "030120", "111 222 101", 2, 0, "111 212 121");
    }

    @Sentence(of = "Terms", says = {"then z is made anew likewise",
        "the tile is 2 if z divided by 65536, rounded down, can be divided by 10, otherwise 1"})
    private void drawsTile2IfDivisibleBy10() {
        firstTileIs("the smallest z", 0, 2);
        firstTileIs("at the end of the quotient 0", 65535, 2);
        firstTileIs("the quotient 1", 65536, 1);
        firstTileIs("the quotient 5", 5 * 65536, 1);
        firstTileIs("at the end of the quotient 9", 10 * 65536 - 1, 1);
        firstTileIs("the quotient 10", 10 * 65536, 2);
        firstTileIs("at the end of the quotient 10", 11 * 65536 - 1, 2);
        firstTileIs("the quotient 11", 11 * 65536, 1);
        firstTileIs("the quotient 32760", 32760 * 65536, 2);
        firstTileIs("the largest z", LARGEST_Z, 1);
    }

    @Sentence(of = "Terms", says = "A game begins with an empty board and two draws.")
    private void drawsAGameBeginsWithTwo() {
        for (int seed = 0; seed < 100; seed++) {
            TileWarden house = Houses.oneGame(seed);
            checks.same("empty cells with the seed " + seed, 7, emptyCells(house));
            checks.same("pushes", 0, house.pushes(0));
            checks.same("score", 0, house.score(0));
        }
    }

    @Sentence(of = "Terms", says = "A state is a board with its z.")
    private void drawsAStateIsABoardWithItsZ() {
        TileWarden sameZ = Houses.oneGame(7);
        sameZ.open(0, 7);
        sameZ.push(0, 0);
        sameZ.push(1, 1);
        sameZ.hint(0, 1);
        checks.isTrue("the boards differ", !Houses.board(sameZ, 0).equals(Houses.board(sameZ, 1)));
        checks.same("another board with the same z", false, sameZ.isCached(1, 1));
        // The seeds 4 and 27 begin with the same board.
        TileWarden sameBoard = Houses.oneGame(4);
        sameBoard.open(0, 27);
        sameBoard.hint(0, 1);
        checks.same("the boards are alike", Houses.board(sameBoard, 0), Houses.board(sameBoard, 1));
        checks.same("the same board with another z", false, sameBoard.isCached(1, 1));
        sameBoard.open(0, 4);
        checks.same("the same board with the same z", true, sameBoard.isCached(2, 1));
    }

    @Sentence(of = "Terms", says = "A game is over if no push can be done.")
    private void drawsAGameIsOverIfNoPushCanBeDone() {
        checks.same("at the beginning", false, Houses.oneGame(0).isOver(0));
        checks.same("one way is left", false, Houses.gone(24, 1).isOver(0));
        checks.same("full, one pair in each row", false, Houses.gone(50, Houses.ways("1021020")).isOver(0));
        checks.same("full, one pair in each column", false, Houses.gone(50, Houses.ways("1021123")).isOver(0));
        checks.same("full, without a pair", true, Houses.gone(33, Houses.ways("12030131")).isOver(0));
        checks.same("full, without a pair", true, Houses.over().isOver(0));
        checks.same("with great tiles", true, Houses.gone(5, Houses.ways(LONG_GAME)).isOver(0));
    }

    // ---- promise 4: push

    @Sentence(of = "Promise 4", says = {"Pushes.", "- `to`: where to, 0 to 3", "Returns the gain."})
    private void promise4SmallestAndLargestWay() {
        pushed("the smallest way", 3, "", "000 001 001", 0, 4, "002 000 010");
        pushed("the largest way", 2, "", "000 000 011", 3, 4, "000 001 200");
        pushed("the smallest gain", 0, "", "100 001 000", 3, 0, "100 100 010");
    }

    @Sentence(of = "Promise 4", says = "- `game`: the number of the game")
    private void promise4SmallestAndLargestGame() {
        TileWarden house = Houses.full();
        house.push(0, 0);
        house.push(7, 0);
        checks.same("the game 0", 1, house.pushes(0));
        checks.same("the game 7", 1, house.pushes(7));
        checks.same("no other game", 0, house.pushes(1) + house.pushes(6));
    }

    @Sentence(of = "Promise 4", says = "Throws `IndexOutOfBoundsException` if there is no such game")
    private void promise4NoSuchGame() {
        refusesNoSuchGame((house, game) -> house.push(game, 0));
    }

    @Sentence(of = "Promise 4", says = "Throws `IllegalArgumentException` if there is no such way")
    private void promise4NoSuchWay() {
        refusesEach(ARGUMENT, NO_WAY, (house, to) -> house.push(4, to));
    }

    @Sentence(of = "Promise 4", says = "Throws `UnsupportedOperationException` if the game is void")
    private void promise4VoidGame() {
        int way = Houses.firstWay(Houses.lively(), 1);
        checks.isTrue("it could be pushed otherwise", way >= 0);
        undisturbed.refused("push of a void game", UNSUPPORTED, Houses::lively, house -> house.push(1, way));
    }

    @Sentence(of = "Promise 4", says = "or the push cannot be done")
    private void promise4PushThatCannotBeDone() {
        undisturbed.refused("nothing would change", UNSUPPORTED, () -> Houses.oneGame(2), house -> house.push(0, 2));
        for (int way = 0; way < 4; way++) {
            int to = way;
            undisturbed.refused("over", UNSUPPORTED, Houses::lively, house -> house.push(2, to));
        }
        undisturbed.refused("full", UNSUPPORTED, () -> Houses.gone(50, Houses.ways("1021020")),
                house -> house.push(0, 0));
    }

    @Sentence(of = "Terms", says = "If several exceptions apply, the exception that is listed first is thrown.")
    private void promise4FirstExceptionFirst() {
        undisturbed.refused("game ahead of way", INDEX, Houses::lively, house -> house.push(7, 4));
        undisturbed.refused("game ahead of way", INDEX, Houses::lively, house -> house.push(-1, -1));
        undisturbed.refused("way ahead of void", ARGUMENT, Houses::lively, house -> house.push(1, 4));
        undisturbed.refused("way ahead of over", ARGUMENT, Houses::lively, house -> house.push(2, -1));
    }

    // ---- promise 5: at

    @Sentence(of = "Promise 5", says = {"- `row`: the row, 0 to 2", "- `column`: the column, 0 to 2",
        "Returns the tile of a cell.", "Returns the tile, 0 if it is empty."})
    private void promise5SmallestAndLargestRowAndColumn() {
        TileWarden house = Houses.gone(50, Houses.ways("00023023"));
        int[][] due = {{0, 0, 2}, {3, 1, 0}, {3, 1, 2}};
        for (int row = 0; row < 3; row++) {
            for (int column = 0; column < 3; column++) {
                checks.same("row " + row + ", column " + column, due[row][column], house.at(0, row, column));
            }
        }
        checks.same("the greatest tile", 8,
                Houses.gone(5, Houses.ways(LONG_GAME.substring(0, 130))).at(0, 0, 1));
    }

    @Sentence(of = "Promise 5", says = "- `game`: the number of the game")
    private void promise5EveryGameIsAsked() {
        TileWarden house = Houses.full();
        house.push(7, 0);
        checks.same("the game 0", "000 010 010", Houses.board(house, 0));
        checks.same("the game 7", "020 010 000", Houses.board(house, 7));
        checks.same("a game that is over", 2, Houses.over().at(0, 2, 2));
        TileWarden voided = Houses.voidGame();
        checks.same("a void game", Houses.board(voided, 0), Houses.board(voided, 1));
    }

    @Sentence(of = "Promise 5", says = "Throws `IndexOutOfBoundsException` if there is no such game")
    private void promise5NoSuchGame() {
        refusesNoSuchGame((house, game) -> house.at(game, 0, 0));
    }

    @Sentence(of = "Promise 5", says = "Throws `IllegalArgumentException` if there is no such cell")
    private void promise5NoSuchCell() {
        for (int line : NO_LINE) {
            undisturbed.refused("row " + line, ARGUMENT, Houses::lively, house -> house.at(0, line, 1));
            undisturbed.refused("column " + line, ARGUMENT, Houses::lively, house -> house.at(0, 1, line));
            undisturbed.refused("both " + line, ARGUMENT, Houses::lively, house -> house.at(0, line, line));
        }
        undisturbed.refused("no way around", ARGUMENT, Houses::lively, house -> house.at(0, 3, -1));
    }

    @Sentence(of = "Terms", says = "If several exceptions apply, the exception that is listed first is thrown.")
    private void promise5FirstExceptionFirst() {
        undisturbed.refused("game ahead of row", INDEX, Houses::lively, house -> house.at(7, 3, 0));
        undisturbed.refused("game ahead of column", INDEX, Houses::lively, house -> house.at(-1, 0, -1));
    }

    // ---- promises 6 and 7: score and pushes

    @Sentence(of = "Promise 6", says = {"Returns the sum of the gains of a game.", "Returns the sum.",
        "- `game`: the number of the game"})
    private void promise6NoneAndMany() {
        TileWarden house = Houses.twins(5);
        checks.same("before the first push", 0, house.score(0));
        Houses.go(house, 1, Houses.ways("0000"));
        checks.same("behind pushes with the gains 0, 4, 4 and 8", 16, house.score(1));
        house.push(1, 0);
        checks.same("behind a push that gains nothing", 16, house.score(1));
        checks.same("another game", 0, house.score(0));
        checks.same("a long game", 2252, Houses.gone(5, Houses.ways(LONG_GAME)).score(0));
        TileWarden voided = Houses.voidGame();
        checks.isTrue("it has gains", voided.score(0) > 0);
        checks.same("a void game keeps its gains", voided.score(0), voided.score(1));
    }

    @Sentence(of = "Promise 6", says = "Throws `IndexOutOfBoundsException` if there is no such game")
    private void promise6NoSuchGame() {
        refusesNoSuchGame((house, game) -> house.score(game));
    }

    @Sentence(of = "Promise 7", says = {"Returns how many pushes were done in a game.", "Returns the number of pushes.",
        "- `game`: the number of the game"})
    private void promise7NoneAndMany() {
        TileWarden house = Houses.twins(2);
        checks.same("before the first push", 0, house.pushes(0));
        checks.refused("a push that is refused", UNSUPPORTED, () -> house.push(0, 2));
        checks.same("it does not count", 0, house.pushes(0));
        house.push(0, 1);
        checks.same("behind the first push", 1, house.pushes(0));
        checks.same("another game", 0, house.pushes(1));
        checks.same("a long game", LONG_GAME.length(), Houses.gone(5, Houses.ways(LONG_GAME)).pushes(0));
        checks.same("a void game keeps its pushes", 4, Houses.voidGame().pushes(1));
    }

    @Sentence(of = "Promise 7", says = "Throws `IndexOutOfBoundsException` if there is no such game")
    private void promise7NoSuchGame() {
        refusesNoSuchGame((house, game) -> house.pushes(game));
    }

    // ---- promises 8 and 9: canPush and isOver

    @Sentence(of = "Promise 8", says = {"- `to`: where to, 0 to 3", "Returns whether it can.",
        "- `game`: the number of the game"})
    private void promise8SmallestAndLargestWay() {
        TileWarden house = Houses.gone(49, Houses.ways("01"));
        checks.same("the smallest way", false, house.canPush(0, 0));
        checks.same("the one that can be done", true, house.canPush(0, 2));
        checks.same("the largest way", false, house.canPush(0, 3));
        house.open(0, 2);
        checks.same("another game, the smallest way", true, house.canPush(1, 0));
        checks.same("another game, the one that cannot be done", false, house.canPush(1, 2));
        checks.same("another game, the largest way", true, house.canPush(1, 3));
    }

    @Sentence(of = "Promise 8", says = "Returns whether a push can be done on the board of a game, be it void or not.")
    private void promise8BeItVoidOrNot() {
        TileWarden house = Houses.voidGame();
        for (int to = 0; to < 4; to++) {
            checks.same("void, way " + to, house.canPush(0, to), house.canPush(1, to));
        }
        checks.isTrue("there is one that can be done", Houses.firstWay(house, 1) >= 0);
        TileWarden over = Houses.over();
        checks.same("over", -1, Houses.firstWay(over, 0));
    }

    @Sentence(of = "Promise 8", says = "Throws `IndexOutOfBoundsException` if there is no such game")
    private void promise8NoSuchGame() {
        refusesNoSuchGame((house, game) -> house.canPush(game, 0));
    }

    @Sentence(of = "Promise 8", says = "Throws `IllegalArgumentException` if there is no such way")
    private void promise8NoSuchWay() {
        for (int to : NO_WAY) {
            undisturbed.refused("canPush to " + to, ARGUMENT, Houses::lively, house -> house.canPush(0, to));
            undisturbed.refused("void, to " + to, ARGUMENT, Houses::lively, house -> house.canPush(1, to));
        }
    }

    @Sentence(of = "Terms", says = "If several exceptions apply, the exception that is listed first is thrown.")
    private void promise8FirstExceptionFirst() {
        undisturbed.refused("game ahead of way", INDEX, Houses::lively, house -> house.canPush(7, 4));
        undisturbed.refused("game ahead of way", INDEX, Houses::lively, house -> house.canPush(-1, -1));
    }

    @Sentence(of = "Promise 9", says = {"Returns whether a game is over.", "Returns whether it is.",
        "- `game`: the number of the game"})
    private void promise9JustBeforeTheEndAndBehindIt() {
        int[] ways = Houses.toTheEnd();
        TileWarden house = Houses.oneGame(21);
        for (int to : ways) {
            checks.same("before a push", false, house.isOver(0));
            house.push(0, to);
        }
        checks.same("behind the last push", true, house.isOver(0));
        house.open(0, 21);
        checks.same("another game", false, house.isOver(1));
    }

    @Sentence(of = "Promise 9", says = "Returns whether a game is over.")
    private void promise9VoidGames() {
        TileWarden house = Houses.voidGame();
        checks.same("void alone is not over", false, house.isOver(1));
        TileWarden both = Houses.twins(3);
        Houses.chase(both, 3);
        Houses.playToTheEnd(both, 1);
        both.judge(1);
        checks.same("void", true, both.isVoid(1));
        checks.same("void and over", true, both.isOver(1));
    }

    @Sentence(of = "Promise 9", says = "Throws `IndexOutOfBoundsException` if there is no such game")
    private void promise9NoSuchGame() {
        refusesNoSuchGame((house, game) -> house.isOver(game));
    }

    // ---- what the tests look at

    /** Goes a path from a seed, and looks at the board, at a push's gain and at the board behind it. */
    private void pushed(String what, int seed, String path, String before, int to, int gain, String after) {
        TileWarden house = Houses.gone(seed, Houses.ways(path));
        checks.same(what + ", the board before", before, Houses.board(house, 0));
        int score = house.score(0);
        checks.same(what + ", the gain", gain, house.push(0, to));
        checks.same(what + ", the board behind", after, Houses.board(house, 0));
        checks.same(what + ", the score", score + gain, house.score(0));
        checks.same(what + ", the pushes", path.length() + 1, house.pushes(0));
    }

    private static int emptyCells(TileWarden house) {
        int empty = 0;
        for (int cell = 0; cell < 9; cell++) {
            empty += house.at(0, cell / 3, cell % 3) == 0 ? 1 : 0;
        }
        return empty;
    }

    private static BigInteger next(BigInteger z) {
        return z.multiply(TIMES).add(PLUS).mod(MODULUS);
    }

    /** The number that the next drawing makes into this one. */
    private static int before(int z) {
        return BigInteger.valueOf(z).subtract(PLUS).multiply(TIMES.modInverse(MODULUS)).mod(MODULUS).intValueExact();
    }

    /** Looks at the first board of a seed, which is drawn once more here. */
    private void startsAsDue(int seed) {
        int[] cells = new int[9];
        BigInteger z = BigInteger.valueOf(seed);
        for (int draw = 0; draw < 2; draw++) {
            z = next(z);
            int which = z.intValueExact() / 65536 % (9 - draw);
            z = next(z);
            int tile = z.intValueExact() / 65536 % 10 == 0 ? 2 : 1;
            int cell = 0;
            while (cells[cell] != 0 || which > 0) {
                which -= cells[cell] == 0 ? 1 : 0;
                cell++;
            }
            cells[cell] = tile;
        }
        StringBuilder due = new StringBuilder();
        for (int cell = 0; cell < 9; cell++) {
            due.append(cell == 3 || cell == 6 ? " " : "").append(cells[cell]);
        }
        checks.same("the board of the seed " + seed, due.toString(), Houses.board(Houses.oneGame(seed), 0));
    }

    /** Looks where the first tile stands if its place is drawn by this z. */
    private void firstTileAt(String what, int z, int cell) {
        int seed = before(z);
        checks.isTrue(what, Houses.oneGame(seed).at(0, cell / 3, cell % 3) != 0);
        startsAsDue(seed);
    }

    /** Looks where the second tile stands if its place is drawn by this z: it skips the first tile. */
    private void secondTileAt(String what, int z, int skipped) {
        int firstZ = before(before(z));
        int first = firstZ / 65536 % 9;
        int cell = skipped < first ? skipped : skipped + 1;
        int seed = before(firstZ);
        checks.isTrue(what, Houses.oneGame(seed).at(0, cell / 3, cell % 3) != 0);
        startsAsDue(seed);
    }

    /** Looks at the first tile if it is drawn by this z. */
    private void firstTileIs(String what, int z, int tile) {
        int firstZ = before(z);
        int cell = firstZ / 65536 % 9;
        int seed = before(firstZ);
        checks.same(what, tile, Houses.oneGame(seed).at(0, cell / 3, cell % 3));
        startsAsDue(seed);
    }
}
