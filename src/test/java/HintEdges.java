/** The edges of hints: "Hints" of the terms, and the promises 10 to 12. */
final class HintEdges extends Edges {
    HintEdges(Checks checks) {
        super(checks);
    }

    // ---- hints

    @Sentence(of = "Terms", says = "The worth of a state at the depth 0 is 0.")
    private void hintsWorthAtTheDepth0Is0() {
        checks.same("where a push would gain", 0, Houses.oneGame(2).worth(0, 0));
        checks.same("over", 0, Houses.over().worth(0, 0));
        checks.same("void", 0, Houses.voidGame().worth(1, 0));
    }

    @Sentence(of = "Terms", says = "At a greater depth d, it is the greatest, over all pushes that can be done, "
            + "of the gain and the worth at the depth d less 1 of the state behind it, with its draw")
    private void hintsWorthAtGreaterDepths() {
        worth("the depth 1 is the greatest gain", 2, "", "000 000 011", 1, 4);
        worth("the depth 1 without a merge", 0, "", "100 001 000", 1, 0);
        worth("the depth 2 is what two pushes gain", 0, "2", "000 001 101", 2, 8);
        worth("a lesser gain first, for a greater one", 16, "", "000 000 101", 2, 12);
        worth("the tile that is drawn counts", 0, "", "100 001 000", 2, 4);
        worth("the depth 3", 7, "", "000 010 010", 3, 12);
        for (int depth = 0; depth < 4; depth++) {
            TileWarden house = Houses.oneGame(5);
            checks.isTrue("deeper is not worth less", house.worth(0, depth) <= house.worth(0, depth + 1));
        }
    }

    @Sentence(of = "Terms", says = "over all pushes that can be done")
    private void hintsOnlyPushesThatCanBeDone() {
        // Here a draw on the unchanged board would open the way to a merge, but none can be done.
        worth("up and left alone", 2, "1", "000 001 002", 2, 0);
        worth("up and left alone, deeper", 2, "1", "000 001 002", 3, 4);
    }

    @Sentence(of = "Terms", says = "0 if none can be done.")
    private void hintsWorthIs0IfNoneCanBeDone() {
        for (int depth = 0; depth <= 4; depth++) {
            checks.same("over at the depth " + depth, 0, Houses.over().worth(0, depth));
        }
        for (int depth = 1; depth <= 4; depth++) {
            worth("each push ends the game", 364, "23132020301020", "111 323 131", depth, 4);
            worth("each push ends the game, for nothing", 2105, "113123132021102", "013 321 132", depth, 0);
        }
    }

    @Sentence(of = "Terms", says = "Its hint is the lowest push by which it comes.")
    private void hintsLowestPush() {
        told("all four, with nothing to gain", 0, "", 1, 0);
        told("all four, with a gain", 0, "2", 1, 0);
        told("up and down", 3, "", 1, 0);
        told("right and left", 2, "", 1, 1);
        told("right alone gains nothing", 17, "03", 1, 1);
        told("down alone", 49, "01", 1, 2);
        told("left alone", 24, "1", 1, 3);
        told("down and left, with nothing to gain", 15, "", 1, 2);
        told("the lowest is not the best", 11, "0", 2, 1);
        told("only down is best", 15, "", 2, 2);
        told("only left is best", 5, "2", 2, 3);
        told("down and left are best", 5, "3", 2, 2);
        told("right and down are best", 4, "", 3, 1);
        told("left is best by the last push", 37, "", 3, 3);
        told("only down is best by the last push", 7, "", 3, 2);
        told("right and left end the game", 364, "23132020301020", 4, 1);
        told("up and left end the game, for nothing", 2105, "113123132021102", 4, 0);
    }

    // ---- promise 10: price

    @Sentence(of = "Promise 10", says = {"- `depth`: the depth, 1 to 4", "Returns the price.",
        "- `game`: the number of the game"})
    private void promise10SmallestAndLargestDepth() {
        TileWarden house = Houses.oneGame(7);
        checks.same("the depth 1", 1, house.price(0, 1));
        checks.same("the depth 2", 5, house.price(0, 2));
        checks.same("the depth 3", 16, house.price(0, 3));
        checks.same("the depth 4", 56, house.price(0, 4));
        house.open(0, 2);
        checks.same("another game", 4, house.price(1, 2));
    }

    @Sentence(of = "Promise 10", says = "Returns what a hint would cost now; nothing changes.")
    private void promise10NothingChanges() {
        for (int depth = 1; depth <= 4; depth++) {
            int asked = depth;
            undisturbed.asked("price in an empty cache", () -> Houses.oneGame(7), house -> house.price(0, asked));
            undisturbed.asked("price", Houses::lively, house -> house.price(5, asked));
            undisturbed.asked("price in a full cache", HintEdges::fullCache, house -> house.price(0, asked));
            undisturbed.asked("price with 60 traces", Houses::full, house -> house.price(0, asked));
        }
    }

    private static TileWarden fullCache() {
        TileWarden house = Houses.twins(7);
        house.hint(0, 4);
        house.pin(0, 4);
        house.push(0, 0);
        return house;
    }

    @Sentence(of = "Promise 10", says = "Returns what a hint would cost now; nothing changes.")
    private void promise10IsWhatTheHintCosts() {
        for (int depth = 1; depth <= 4; depth++) {
            TileWarden house = Houses.lively();
            int price = house.price(5, depth);
            int before = house.money(0);
            house.hint(5, depth);
            checks.same("paid at the depth " + depth, before - price, house.money(0));
            checks.same("the next is a hit", 1, house.price(5, depth));
        }
        TileWarden poor = Houses.players(0);
        poor.open(0, 7);
        checks.same("who has no money may ask", 56, poor.price(0, 4));
    }

    @Sentence(of = "Promise 10", says = "Throws `IndexOutOfBoundsException` if there is no such game")
    private void promise10NoSuchGame() {
        refusesNoSuchGame((house, game) -> house.price(game, 1));
    }

    @Sentence(of = "Promise 10", says = "Throws `IllegalArgumentException` if the depth is out of range")
    private void promise10DepthOutOfRange() {
        refusesNoSuchDepth((house, depth) -> house.price(5, depth));
    }

    @Sentence(of = "Promise 10", says = "Throws `UnsupportedOperationException` if the game is void, or over")
    private void promise10VoidOrOver() {
        for (int depth = 1; depth <= 4; depth++) {
            int asked = depth;
            undisturbed.refused("void", UNSUPPORTED, Houses::lively, house -> house.price(1, asked));
            undisturbed.refused("over", UNSUPPORTED, Houses::lively, house -> house.price(2, asked));
        }
        checks.same("one way is left", 1, Houses.gone(24, 1).price(0, 1));
    }

    @Sentence(of = "Terms", says = "If several exceptions apply, the exception that is listed first is thrown.")
    private void promise10FirstExceptionFirst() {
        undisturbed.refused("game ahead of depth", INDEX, Houses::lively, house -> house.price(7, 0));
        undisturbed.refused("game ahead of depth", INDEX, Houses::lively, house -> house.price(-1, 5));
        undisturbed.refused("depth ahead of void", ARGUMENT, Houses::lively, house -> house.price(1, 0));
        undisturbed.refused("depth ahead of over", ARGUMENT, Houses::lively, house -> house.price(2, 5));
    }

    // ---- promise 11: hint

    @Sentence(of = "Promise 11", says = {"Sells a hint to the player of a game, who pays its price.",
        "- `depth`: the depth, 1 to 4", "Returns the push that it tells.", "- `game`: the number of the game"})
    private void promise11SmallestAndLargestDepth() {
        int[] prices = {1, 5, 16, 56};
        for (int depth = 1; depth <= 4; depth++) {
            TileWarden house = Houses.twins(7);
            int told = house.hint(1, depth);
            checks.same("it is the push of the trace", told, house.pushOf(0));
            checks.same("paid at the depth " + depth, 9999 - prices[depth - 1], house.money(1));
            checks.same("the other does not pay", 9999, house.money(0));
            checks.same("a trace", 1, house.traces());
            checks.same("an entry", true, house.isCached(1, depth));
            checks.same("it is told again", told, house.hint(1, depth));
            checks.same("for 1", 9998 - prices[depth - 1], house.money(1));
        }
    }

    @Sentence(of = "Promise 11", says = "Throws `IndexOutOfBoundsException` if there is no such game")
    private void promise11NoSuchGame() {
        refusesNoSuchGame((house, game) -> house.hint(game, 1));
    }

    @Sentence(of = "Promise 11", says = "Throws `IllegalArgumentException` if the depth is out of range")
    private void promise11DepthOutOfRange() {
        refusesNoSuchDepth((house, depth) -> house.hint(5, depth));
    }

    @Sentence(of = "Promise 11", says = "Throws `UnsupportedOperationException` if the game is void, or over")
    private void promise11VoidOrOver() {
        for (int depth = 1; depth <= 4; depth++) {
            int asked = depth;
            undisturbed.refused("void", UNSUPPORTED, Houses::lively, house -> house.hint(1, asked));
            undisturbed.refused("over", UNSUPPORTED, Houses::lively, house -> house.hint(2, asked));
        }
        checks.same("one way is left", 3, Houses.gone(24, 1).hint(0, 1));
    }

    @Sentence(of = "Promise 11",
            says = "Throws `NoSuchElementException` if the player has less money than its price")
    private void promise11JustEnoughAndTooLittleMoney() {
        int[] prices = {1, 5, 16, 56};
        for (int depth = 1; depth <= 4; depth++) {
            int asked = depth;
            int price = prices[depth - 1];
            TileWarden house = withMoney(price);
            house.hint(0, depth);
            checks.same("just enough, and nothing is left", 0, house.money(0));
            undisturbed.refused("1 too little", MISSING, () -> withMoney(price - 1), each -> each.hint(0, asked));
            undisturbed.refused("no money", MISSING, () -> withMoney(0), each -> each.hint(0, asked));
        }
        undisturbed.refused("among others", MISSING, Houses::lively, house -> house.hint(3, 3));
        TileWarden hit = withMoney(2);
        hit.hint(0, 1);
        hit.hint(0, 1);
        checks.same("a hit is paid with the last money", 0, hit.money(0));
        checks.refused("a hit costs 1 too", MISSING, () -> hit.hint(0, 1));
    }

    private static TileWarden withMoney(int money) {
        TileWarden house = Houses.players(money);
        house.open(0, 7);
        return house;
    }

    @Sentence(of = "Promise 11", says = "Throws `IllegalStateException` if there are 60 traces")
    private void promise11SixtiethAndSixtyFirstTrace() {
        TileWarden house = withMoney(9999);
        for (int i = 0; i < 59; i++) {
            house.hint(0, 1);
        }
        house.hint(0, 2);
        checks.same("the sixtieth", 60, house.traces());
        for (int depth = 1; depth <= 4; depth++) {
            int asked = depth;
            checks.refused("the sixty-first", STATE, () -> house.hint(0, asked));
        }
        undisturbed.refused("a hit", STATE, Houses::full, each -> each.hint(0, 1));
        undisturbed.refused("with misses", STATE, Houses::full, each -> each.hint(0, 2));
    }

    @Sentence(of = "Terms", says = "If several exceptions apply, the exception that is listed first is thrown.")
    private void promise11FirstExceptionFirst() {
        undisturbed.refused("game ahead of depth", INDEX, Houses::lively, house -> house.hint(7, 0));
        undisturbed.refused("depth ahead of void", ARGUMENT, Houses::lively, house -> house.hint(1, 5));
        undisturbed.refused("depth ahead of over", ARGUMENT, Houses::lively, house -> house.hint(2, 0));
        undisturbed.refused("depth ahead of money", ARGUMENT, () -> withMoney(0), house -> house.hint(0, 0));
        undisturbed.refused("depth ahead of 60 traces", ARGUMENT, Houses::full, house -> house.hint(0, 5));
        undisturbed.refused("void ahead of money", UNSUPPORTED, Houses::voidAndPoor, house -> house.hint(1, 1));
        undisturbed.refused("over ahead of money", UNSUPPORTED, HintEdges::overAndPoor, house -> house.hint(0, 1));
        undisturbed.refused("over ahead of 60 traces", UNSUPPORTED, HintEdges::overAndFull,
                house -> house.hint(1, 1));
        undisturbed.refused("void ahead of 60 traces", UNSUPPORTED, HintEdges::voidAndFull,
                house -> house.hint(1, 1));
        undisturbed.refused("money ahead of 60 traces", MISSING, Houses::full, house -> house.hint(1, 1));
        undisturbed.refused("game ahead of all", INDEX, Houses::full, house -> house.hint(8, 5));
    }

    private static TileWarden overAndPoor() {
        TileWarden house = Houses.players(0);
        house.open(0, 21);
        Houses.go(house, 0, Houses.toTheEnd());
        return house;
    }

    private static TileWarden overAndFull() {
        TileWarden house = Houses.players(99, 0);
        house.open(0, 7);
        house.open(1, 21);
        Houses.go(house, 1, Houses.toTheEnd());
        while (house.traces() < 60) {
            house.hint(0, 1);
        }
        return house;
    }

    private static TileWarden voidAndFull() {
        TileWarden house = Houses.voidGame();
        while (house.traces() < 60) {
            house.hint(0, 1);
        }
        return house;
    }

    // ---- promise 12: worth

    @Sentence(of = "Promise 12", says = {"- `depth`: the depth, 0 to 4", "Returns the worth.",
        "- `game`: the number of the game"})
    private void promise12SmallestAndLargestDepth() {
        int[] due = {0, 0, 4, 8, 16};
        TileWarden house = Houses.oneGame(2);
        house.open(0, 1);
        for (int depth = 0; depth <= 4; depth++) {
            checks.same("the depth " + depth, due[depth], house.worth(1, depth));
        }
        checks.same("another game", 4, house.worth(0, 1));
        checks.isTrue("a void game has a worth", Houses.voidGame().worth(1, 4) > 0);
        checks.same("a game that is over has none", 0, Houses.over().worth(0, 4));
    }

    @Sentence(of = "Promise 12", says = "Returns the worth of the state of a game, without the cache.")
    private void promise12WithoutTheCache() {
        for (int depth = 0; depth <= 4; depth++) {
            int asked = depth;
            undisturbed.asked("worth with an empty cache", () -> Houses.oneGame(7), house -> house.worth(0, asked));
            undisturbed.asked("worth", Houses::lively, house -> house.worth(4, asked));
            undisturbed.asked("worth with a full cache", HintEdges::fullCache, house -> house.worth(0, asked));
        }
        TileWarden house = Houses.oneGame(7);
        house.worth(0, 4);
        checks.same("nothing is put in", 0, house.entries());
        checks.refused("no hits and misses", ARITHMETIC, house::hitShare);
        checks.same("no trace", 0, house.traces());
        checks.same("no money", 9999, house.money(0));
    }

    @Sentence(of = "Promise 12", says = "Throws `IndexOutOfBoundsException` if there is no such game")
    private void promise12NoSuchGame() {
        refusesNoSuchGame((house, game) -> house.worth(game, 0));
    }

    @Sentence(of = "Promise 12", says = "Throws `IllegalArgumentException` if the depth is out of range")
    private void promise12DepthOutOfRange() {
        for (int depth : new int[] {Integer.MIN_VALUE, -1, 5, Integer.MAX_VALUE}) {
            undisturbed.refused("the depth " + depth, ARGUMENT, Houses::lively, house -> house.worth(5, depth));
        }
    }

    @Sentence(of = "Terms", says = "If several exceptions apply, the exception that is listed first is thrown.")
    private void promise12FirstExceptionFirst() {
        undisturbed.refused("game ahead of depth", INDEX, Houses::lively, house -> house.worth(7, -1));
        undisturbed.refused("game ahead of depth", INDEX, Houses::lively, house -> house.worth(-1, 5));
    }

    // ---- what the tests look at

    private void worth(String what, int seed, String path, String board, int depth, int due) {
        TileWarden house = Houses.gone(seed, Houses.ways(path));
        checks.same(what + ", board", board, Houses.board(house, 0));
        checks.same(what, due, house.worth(0, depth));
    }

    /** Looks at a hint from an empty cache, and from the cache that it leaves. */
    private void told(String what, int seed, String path, int depth, int due) {
        TileWarden house = Houses.gone(seed, Houses.ways(path));
        checks.same(what, due, house.hint(0, depth));
        checks.same(what + ", from the cache", due, house.hint(0, depth));
    }
}
