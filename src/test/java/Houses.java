/** Houses that tests begin with, and what tests do with them. */
final class Houses {
    /** With the seed 21 these pushes end a game: 212 121 212. */
    private static final int[] TO_THE_END = {3, 2, 1, 3, 3, 0, 0, 2, 0};
    /** No game in a house that is used for so few calls lasts longer. */
    private static final int MOST_PUSHES = 400;

    private Houses() {
    }

    static int[] toTheEnd() {
        return TO_THE_END.clone();
    }

    /** A house with players who have this money, numbered from 0, and without games. */
    static TileWarden players(int... money) {
        TileWarden house = new TileWarden();
        for (int each : money) {
            house.addPlayer(each);
        }
        return house;
    }

    /** A house with one rich player and one game. */
    static TileWarden oneGame(int seed) {
        TileWarden house = players(9999);
        house.open(0, seed);
        return house;
    }

    /** A house with two rich players, who have the games 0 and 1 in the same state. */
    static TileWarden twins(int seed) {
        TileWarden house = oneGame(seed);
        house.addPlayer(9999);
        house.open(1, seed);
        return house;
    }

    static TileWarden gone(int seed, int... ways) {
        TileWarden house = oneGame(seed);
        go(house, 0, ways);
        return house;
    }

    static void go(TileWarden house, int game, int... ways) {
        for (int to : ways) {
            house.push(game, to);
        }
    }

    /** The ways that stand in a text, a digit each. */
    static int[] ways(String digits) {
        int[] ways = new int[digits.length()];
        for (int i = 0; i < ways.length; i++) {
            ways[i] = digits.charAt(i) - '0';
        }
        return ways;
    }

    /** The game 0 buys a hint and goes by it; the game 1 does the same without a hint. */
    static void chase(TileWarden house, int steps) {
        for (int step = 0; step < steps; step++) {
            int told = house.hint(0, 1);
            house.push(0, told);
            house.push(1, told);
        }
    }

    /** A way that can be pushed and is not this one. */
    static int otherWay(TileWarden house, int game, int than) {
        int way = -1;
        for (int to = 0; to < 4; to++) {
            if (to != than && house.canPush(game, to)) {
                way = to;
            }
        }
        return way;
    }

    /** The lowest way that can be pushed, or -1. */
    static int firstWay(TileWarden house, int game) {
        for (int to = 0; to < 4; to++) {
            if (house.canPush(game, to)) {
                return to;
            }
        }
        return -1;
    }

    /** Goes on until nothing can be pushed any more. */
    static void playToTheEnd(TileWarden house, int game) {
        int way = firstWay(house, game);
        for (int i = 0; i < MOST_PUSHES && way >= 0; i++) {
            house.push(game, way);
            way = firstWay(house, game);
        }
    }

    static String board(TileWarden house, int game) {
        StringBuilder cells = new StringBuilder();
        for (int row = 0; row < 3; row++) {
            cells.append(row == 0 ? "" : " ");
            for (int column = 0; column < 3; column++) {
                cells.append(house.at(game, row, column));
            }
        }
        return cells.toString();
    }

    static TileWarden over() {
        return gone(21, TO_THE_END);
    }

    /** A house where the game 1 is void: it paid ahead and followed three pushes of the game 0. */
    static TileWarden voidGame() {
        TileWarden house = twins(3);
        house.hint(1, 1);
        int told = house.hint(0, 1);
        house.push(0, told);
        house.push(1, told);
        chase(house, 3);
        house.judge(1);
        return house;
    }

    /** A house where the game 0 is void, and paid 1; the game 1 was followed. */
    static TileWarden voidFirstGame() {
        TileWarden house = twins(3);
        for (int step = 0; step < 3; step++) {
            int told = house.hint(1, 1);
            house.push(0, told);
            house.push(1, told);
        }
        house.hint(0, 1);
        house.judge(0);
        return house;
    }

    /** A house where the game 1 is void and its player has no money. */
    static TileWarden voidAndPoor() {
        TileWarden house = players(9999, 0);
        house.open(0, 3);
        house.open(1, 3);
        chase(house, 3);
        house.judge(1);
        return house;
    }

    /**
     * A house with something of everything: the player 0 is rich, 1 has some money and 2 has 2. The
     * game 0 was followed, 1 is void, 2 is over, 3 is the poor player's and has followed the game 6
     * once and would again by the push of the last trace, and 4 and 5 are in one state and have
     * pins, 5 two of them. The limit is 4.
     */
    static TileWarden lively() {
        TileWarden house = players(9999, 500, 3);
        int[][] opened = {{0, 3}, {1, 3}, {0, 21}, {2, 7}, {1, 11}, {0, 11}, {0, 7}};
        for (int[] game : opened) {
            house.open(game[0], game[1]);
        }
        chase(house, 3);
        house.hint(1, 2);
        house.judge(1);
        go(house, 2, TO_THE_END);
        house.hint(4, 2);
        house.pin(4, 2);
        house.hint(5, 1);
        house.pin(5, 1);
        house.pin(5, 2);
        goTogether(house, house.hint(3, 1));
        goTogether(house, house.hint(6, 1));
        house.hint(6, 1);
        house.setLimit(4);
        return house;
    }

    private static void goTogether(TileWarden house, int to) {
        house.push(3, to);
        house.push(6, to);
    }

    /** A house with 4 players, 8 games and 60 traces; only the player 0 has money, 39. */
    static TileWarden full() {
        TileWarden house = players(99, 0, 0, 0);
        for (int game = 0; game < 8; game++) {
            house.open(game % 4, 7);
        }
        for (int i = 0; i < 60; i++) {
            house.hint(0, 1);
        }
        return house;
    }
}
