/** The edges of the house itself: how long it is used, and the promises 1 to 3 and 13. */
final class HouseEdges extends Edges {
    private static final int CALLS = 512;
    private static final int[] NO_MONEY = {Integer.MIN_VALUE, -1, 10000, Integer.MAX_VALUE};
    /** The players of Houses.lively() are 0 to 2. */
    private static final int[] NO_PLAYER = {Integer.MIN_VALUE, -1, 3, 4, Integer.MAX_VALUE};

    HouseEdges(Checks checks) {
        super(checks);
    }

    // ---- what it is

    @Sentence(of = "What it is", says = "An object is used for at most 512 calls after it has been made")
    private void whatItIsThe512thCallStillAnswers() {
        Pair pair = new Pair(checks);
        pair.call("setRoom", 64);
        for (int i = 0; i < 4; i++) {
            pair.call("addPlayer", 9999);
        }
        for (int i = 0; i < 8; i++) {
            pair.call("open", i % 4, i / 4);
        }
        for (int i = 0; pair.calls() < CALLS - 2; i++) {
            int game = i % 8;
            pair.call(i % 3 == 2 ? "price" : "hint", game, 1 + i % 4);
            pair.call("push", game, i / 8 % 4);
            if (pair.calls() < CALLS - 2) {
                pair.call("pin", game, 1 + i % 2);
            }
        }
        pair.call("isSound");
        int game = gameThatIsNotOver(pair);
        checks.isTrue("the last one is a push", pair.call("push", game, wayOf(pair, game)) instanceof Integer);
        checks.same("calls", CALLS, pair.calls());
    }

    private static int gameThatIsNotOver(Pair pair) {
        int game = 0;
        while (game < 7 && wayOf(pair, game) < 0) {
            game++;
        }
        return game;
    }

    private static int wayOf(Pair pair, int game) {
        for (int to = 0; to < 4; to++) {
            if (pair.ask("canPush", game, to).equals(true)) {
                return to;
            }
        }
        return -1;
    }

    // ---- promise 1: a new object

    @Sentence(of = "Promise 1", says = "Creates a house without players")
    private void promise1WithoutPlayers() {
        TileWarden house = new TileWarden();
        for (int player : new int[] {-1, 0, 1}) {
            checks.refused("money of " + player, INDEX, () -> house.money(player));
            checks.refused("open for " + player, INDEX, () -> house.open(player, 0));
        }
        checks.same("the first player has the number 0", 0, house.addPlayer(1));
    }

    @Sentence(of = "Promise 1", says = "without players and games")
    private void promise1WithoutGames() {
        TileWarden house = Houses.players(9999);
        checks.refused("push", INDEX, () -> house.push(0, 0));
        checks.refused("at", INDEX, () -> house.at(0, 0, 0));
        checks.refused("score", INDEX, () -> house.score(0));
        checks.refused("pushes", INDEX, () -> house.pushes(0));
        checks.refused("canPush", INDEX, () -> house.canPush(0, 0));
        checks.refused("isOver", INDEX, () -> house.isOver(0));
        checks.refused("price", INDEX, () -> house.price(0, 1));
        checks.refused("hint", INDEX, () -> house.hint(0, 1));
        checks.refused("worth", INDEX, () -> house.worth(0, 0));
        checks.refused("isCached", INDEX, () -> house.isCached(0, 1));
        checks.refused("pin", INDEX, () -> house.pin(0, 1));
        checks.refused("unpin", INDEX, () -> house.unpin(0));
        checks.refused("follows", INDEX, () -> house.follows(0));
        checks.refused("judge", INDEX, () -> house.judge(0));
        checks.refused("isVoid", INDEX, () -> house.isVoid(0));
        checks.same("the first game has the number 0", 0, house.open(0, 0));
    }

    @Sentence(of = "Promise 1", says = "with an empty cache")
    private void promise1WithAnEmptyCache() {
        TileWarden house = new TileWarden();
        checks.same("entries", 0, house.entries());
        checks.same("pinned", 0, house.pinned());
        checks.same("traces", 0, house.traces());
        checks.refused("no trace", INDEX, () -> house.playerOf(0));
        checks.refused("no trace", INDEX, () -> house.pushOf(0));
        checks.same("refunds", 0L, house.refunds());
        checks.refused("no share", ARITHMETIC, house::hitShare);
        checks.refused("no price", ARITHMETIC, house::meanPrice);
        checks.same("sound", true, house.isSound());
        checks.same("nothing goes", 0, house.setRoom(1));
        checks.same("the limit", 3, house.setLimit(3));
    }

    @Sentence(of = "Promise 1", says = "Creates a house without players and games, with an empty cache.")
    private void promise1AnotherHouseIsAnother() {
        TileWarden full = Houses.full();
        full.setRoom(64);
        full.setLimit(9);
        full.hitShare();
        promise1WithoutPlayers();
        promise1WithoutGames();
        promise1WithAnEmptyCache();
    }

    // ---- promise 2: addPlayer

    @Sentence(of = "Promise 2", says = {"Adds a player.", "- `money`: the money, 0 to 9999",
        "Returns the number of the player."})
    private void promise2SmallestAndLargestMoney() {
        TileWarden house = new TileWarden();
        checks.same("none", 0, house.addPlayer(0));
        checks.same("the most", 1, house.addPlayer(9999));
        checks.same("one", 2, house.addPlayer(1));
        checks.same("all but the most", 3, house.addPlayer(9998));
        checks.same("none", 0, house.money(0));
        checks.same("the most", 9999, house.money(1));
        checks.same("one", 1, house.money(2));
        checks.same("all but the most", 9998, house.money(3));
    }

    @Sentence(of = "Promise 2", says = "Throws `IllegalArgumentException` if it is out of range")
    private void promise2MoneyOutOfRange() {
        for (int money : NO_MONEY) {
            undisturbed.refused("money " + money, ARGUMENT, Houses::lively, house -> house.addPlayer(money));
            undisturbed.refused("first, money " + money, ARGUMENT, TileWarden::new, house -> house.addPlayer(money));
        }
    }

    @Sentence(of = "Promise 2", says = "Throws `IllegalStateException` if there are 4 players")
    private void promise2FourthAndFifthPlayer() {
        TileWarden house = Houses.players(1, 2, 3);
        checks.same("the fourth", 3, house.addPlayer(4));
        checks.refused("the fifth", STATE, () -> house.addPlayer(5));
        checks.same("the fourth is there still", 4, house.money(3));
        for (int money : new int[] {0, 9999}) {
            undisturbed.refused("the fifth", STATE, Houses::full, each -> each.addPlayer(money));
        }
    }

    @Sentence(of = "Terms", says = "If several exceptions apply, the exception that is listed first is thrown.")
    private void promise2FirstExceptionFirst() {
        for (int money : NO_MONEY) {
            undisturbed.refused("range ahead of 4 players", ARGUMENT, Houses::full, house -> house.addPlayer(money));
        }
    }

    // ---- promise 3: open

    @Sentence(of = "Promise 3", says = {"Opens a game.", "- `player`: the number of the player"})
    private void promise3SmallestAndLargestPlayer() {
        TileWarden house = Houses.players(10, 20, 30, 40);
        house.open(0, 7);
        house.open(3, 7);
        house.hint(0, 1);
        house.hint(1, 1);
        checks.same("the player 0 pays for the game 0", 9, house.money(0));
        checks.same("the player 3 pays for the game 1", 39, house.money(3));
        checks.same("no other player pays", 50, house.money(1) + house.money(2));
        checks.same("a player may have several games", 2, house.open(3, 7));
    }

    @Sentence(of = "Promise 3", says = "- `seed`: the seed, 0 at least")
    private void promise3SmallestAndLargestSeed() {
        TileWarden house = Houses.players(0);
        house.open(0, 0);
        house.open(0, Integer.MAX_VALUE);
        checks.same("the smallest", "100 001 000", Houses.board(house, 0));
        checks.same("the largest", "000 000 101", Houses.board(house, 1));
    }

    @Sentence(of = "Promise 3", says = "Returns the number of the game.")
    private void promise3Numbers0To7() {
        TileWarden house = Houses.players(0, 0);
        for (int game = 0; game < 8; game++) {
            checks.same("number", game, house.open(game % 2, 7));
        }
    }

    @Sentence(of = "Promise 3", says = "Throws `IndexOutOfBoundsException` if there is no such player")
    private void promise3NoSuchPlayer() {
        refusesEach(INDEX, NO_PLAYER, (house, player) -> house.open(player, 0));
        undisturbed.refused("without a player", INDEX, TileWarden::new, house -> house.open(0, 0));
    }

    @Sentence(of = "Promise 3", says = "Throws `IllegalArgumentException` if the seed is less than 0")
    private void promise3SeedLessThan0() {
        undisturbed.refused("just less", ARGUMENT, Houses::lively, house -> house.open(0, -1));
        undisturbed.refused("far less", ARGUMENT, Houses::lively, house -> house.open(0, Integer.MIN_VALUE));
    }

    @Sentence(of = "Promise 3", says = "Throws `IllegalStateException` if there are 8 games")
    private void promise3EighthAndNinthGame() {
        TileWarden house = Houses.lively();
        checks.same("the eighth", 7, house.open(2, 0));
        checks.refused("the ninth", STATE, () -> house.open(2, 0));
        for (int player = 0; player < 4; player++) {
            int owner = player;
            undisturbed.refused("the ninth", STATE, Houses::full, each -> each.open(owner, 0));
        }
    }

    @Sentence(of = "Terms", says = "If several exceptions apply, the exception that is listed first is thrown.")
    private void promise3FirstExceptionFirst() {
        undisturbed.refused("player ahead of seed", INDEX, Houses::lively, house -> house.open(3, -1));
        undisturbed.refused("player ahead of 8 games", INDEX, Houses::full, house -> house.open(4, 0));
        undisturbed.refused("seed ahead of 8 games", ARGUMENT, Houses::full, house -> house.open(0, -1));
        undisturbed.refused("player ahead of both", INDEX, Houses::full, house -> house.open(-1, -1));
    }

    // ---- promise 13: money

    @Sentence(of = "Promise 13", says = {"Returns the money of a player.", "Returns the money.",
        "- `player`: the number of the player"})
    private void promise13NoneAndTheMost() {
        TileWarden house = Houses.players(0, 9999, 1, 5);
        house.open(2, 7);
        house.open(3, 7);
        house.hint(1, 2);
        house.hint(0, 1);
        checks.same("the player 0 has none", 0, house.money(0));
        checks.same("the most", 9999, house.money(1));
        checks.same("one, paid", 0, house.money(2));
        checks.same("the player 3 has paid all", 0, house.money(3));
        checks.same("paid back, the most again", 9999, Houses.voidGame().money(1));
    }

    @Sentence(of = "Promise 13", says = "Throws `IndexOutOfBoundsException` if there is no such player")
    private void promise13NoSuchPlayer() {
        refusesEach(INDEX, NO_PLAYER, (house, player) -> house.money(player));
        checks.refused("the fifth of four", INDEX, () -> Houses.full().money(4));
    }
}
