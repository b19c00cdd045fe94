/** The edges of pins: "Pins" of the terms, and the promises 17 to 19. */
final class PinEdges extends Edges {
    private static final int MOST_ROOM = 64;

    PinEdges(Checks checks) {
        super(checks);
    }

    /** Two games in one state that has entries at all depths. */
    private static TileWarden allDepths() {
        TileWarden house = Houses.twins(7);
        house.setRoom(MOST_ROOM);
        for (int depth = 4; depth >= 1; depth--) {
            house.hint(0, depth);
        }
        return house;
    }

    // ---- the terms

    @Sentence(of = "Terms", says = "A game can pin the entry of its state at a depth.")
    private void pinsTheEntryOfItsStateAtADepth() {
        for (int depth = 1; depth <= 4; depth++) {
            TileWarden house = allDepths();
            house.pin(0, depth);
            checks.same("one is pinned", 1, house.pinned());
            house.setRoom(1);
            for (int asked = 1; asked <= 4; asked++) {
                checks.same("pinned " + depth + ", the depth " + asked, asked == depth, house.isCached(0, asked));
            }
        }
    }

    @Sentence(of = "Terms", says = "An entry is pinned as long as it has a pin of some game")
    private void pinsOfSeveralGames() {
        TileWarden house = allDepths();
        house.pin(0, 1);
        house.pin(1, 1);
        house.pin(1, 2);
        checks.same("two pins, and one", 2, house.pinned());
        house.unpin(1);
        checks.same("a pin is left", 1, house.pinned());
        house.setRoom(1);
        checks.same("it stays", true, house.isCached(0, 1));
        house.unpin(0);
        checks.same("none is left", 0, house.pinned());
        house.push(0, 0);
        house.hint(0, 1);
        checks.same("it can go", false, house.isCached(1, 1));
    }

    @Sentence(of = "Terms", says = "An entry is pinned as long as it has a pin of some game")
    private void pinsOfAllEightGames() {
        TileWarden house = Houses.full();
        for (int game = 0; game < 8; game++) {
            checks.same("the pin of " + game, 1, house.pin(game, 1));
            checks.same("one entry", 1, house.pinned());
        }
        for (int game = 7; game > 0; game--) {
            checks.same("the pin of " + game + " goes", 1, house.unpin(game));
            checks.same("pinned still", 1, house.pinned());
        }
        checks.same("the last pin goes", 1, house.unpin(0));
        checks.same("not pinned any more", 0, house.pinned());
    }

    @Sentence(of = "Terms", says = "a game has at most one pin of an entry")
    private void pinsAtMostOnceEach() {
        TileWarden house = allDepths();
        checks.same("the first", 1, house.pin(0, 3));
        checks.same("the same again", 1, house.pin(0, 3));
        checks.same("another", 2, house.pin(0, 4));
        checks.same("the same again", 2, house.pin(0, 3));
        checks.same("two are pinned", 2, house.pinned());
        checks.same("two go", 2, house.unpin(0));
        checks.same("none is pinned", 0, house.pinned());
    }

    @Sentence(of = "Terms", says = "Pins stay when the game goes on.")
    private void pinsStayWhenTheGameGoesOn() {
        TileWarden house = allDepths();
        house.pin(0, 2);
        house.push(0, 0);
        checks.same("it stays", 1, house.pinned());
        checks.same("another state, another pin", 2, house.pin(0, 1));
        Houses.playToTheEnd(house, 0);
        checks.same("they stay to the end", 2, house.pinned());
        house.setRoom(2);
        checks.same("the first is there", true, house.isCached(1, 2));
        checks.same("they are the game's still", 2, house.unpin(0));
        checks.same("none is left", 0, house.pinned());
    }

    // ---- promise 17: pin

    @Sentence(of = "Promise 17", says = {"Pins the entry of the state of a game.", "- `depth`: the depth, 1 to 4",
        "Returns how many pins the game has.", "- `game`: the number of the game"})
    private void promise17SmallestAndLargestDepth() {
        TileWarden house = allDepths();
        for (int depth = 1; depth <= 4; depth++) {
            checks.same("the depth " + depth, depth, house.pin(0, depth));
        }
        checks.same("another game counts its own", 1, house.pin(1, 4));
        checks.same("pinned", 4, house.pinned());
    }

    @Sentence(of = "Promise 17", says = "Returns how many pins the game has.")
    private void promise17AsManyAsThereIsRoomFor() {
        TileWarden house = Houses.oneGame(0);
        house.setRoom(8);
        for (int pins = 1; pins <= 8; pins++) {
            int told = house.hint(0, 1);
            checks.same("pins", pins, house.pin(0, 1));
            house.push(0, told);
        }
        house.hint(0, 1);
        checks.refused("no room for a ninth entry", MISSING, () -> house.pin(0, 1));
        checks.same("all are pinned", 8, house.pinned());
        checks.same("all are there", 8, house.setRoom(8));
    }

    @Sentence(of = "Promise 17", says = "Throws `IndexOutOfBoundsException` if there is no such game")
    private void promise17NoSuchGame() {
        refusesNoSuchGame((house, game) -> house.pin(game, 1));
    }

    @Sentence(of = "Promise 17", says = "Throws `IllegalArgumentException` if the depth is out of range")
    private void promise17DepthOutOfRange() {
        refusesNoSuchDepth((house, depth) -> house.pin(5, depth));
    }

    @Sentence(of = "Promise 17", says = "Throws `UnsupportedOperationException` if the game is void")
    private void promise17VoidGame() {
        checks.same("it has an entry", true, voidWithEntry().isCached(1, 1));
        undisturbed.refused("with an entry", UNSUPPORTED, PinEdges::voidWithEntry, house -> house.pin(1, 1));
        TileWarden over = Houses.oneGame(21);
        Houses.go(over, 0, Houses.ways("32133002"));
        over.hint(0, 2);
        over.push(0, 0);
        checks.same("a game that is over may pin", 1, over.pin(0, 1));
    }

    private static TileWarden voidWithEntry() {
        TileWarden house = Houses.voidGame();
        house.hint(0, 1);
        return house;
    }

    @Sentence(of = "Promise 17", says = "Throws `NoSuchElementException` if there is no such entry")
    private void promise17NoSuchEntry() {
        undisturbed.refused("empty", MISSING, () -> Houses.oneGame(7), house -> house.pin(0, 1));
        undisturbed.refused("another depth", MISSING, Houses::lively, house -> house.pin(5, 3));
        undisturbed.refused("another state", MISSING, Houses::lively, house -> house.pin(0, 4));
        TileWarden house = Houses.oneGame(7);
        house.open(0, 8);
        house.setRoom(1);
        house.hint(0, 1);
        house.hint(1, 1);
        checks.refused("it has gone", MISSING, () -> house.pin(0, 1));
        checks.same("it has come", 1, house.pin(1, 1));
    }

    @Sentence(of = "Terms", says = "If several exceptions apply, the exception that is listed first is thrown.")
    private void promise17FirstExceptionFirst() {
        undisturbed.refused("game ahead of depth", INDEX, Houses::lively, house -> house.pin(7, 0));
        undisturbed.refused("depth ahead of void", ARGUMENT, Houses::lively, house -> house.pin(1, 5));
        undisturbed.refused("depth ahead of no entry", ARGUMENT, () -> Houses.oneGame(7), house -> house.pin(0, 0));
        undisturbed.refused("void ahead of no entry", UNSUPPORTED, Houses::lively, house -> house.pin(1, 4));
    }

    // ---- promises 18 and 19: unpin and pinned

    @Sentence(of = "Promise 18", says = {"Takes all pins of a game away.", "Returns how many it had.",
        "- `game`: the number of the game"})
    private void promise18NoneAndAll() {
        TileWarden house = allDepths();
        checks.same("none", 0, house.unpin(0));
        for (int depth = 1; depth <= 4; depth++) {
            house.pin(0, depth);
        }
        house.pin(1, 4);
        checks.same("four", 4, house.unpin(0));
        checks.same("none again", 0, house.unpin(0));
        checks.same("another game keeps its own", 1, house.pinned());
        checks.same("one", 1, house.unpin(1));
        checks.same("it can be pinned again", 1, house.pin(0, 4));
        checks.same("a void game has none", 0, Houses.voidGame().unpin(1));
        undisturbed.asked("unpin of a game without pins", Houses::lively, each -> each.unpin(0));
        undisturbed.asked("unpin of a void game", Houses::lively, each -> each.unpin(1));
    }

    @Sentence(of = "Promise 18", says = "Throws `IndexOutOfBoundsException` if there is no such game")
    private void promise18NoSuchGame() {
        refusesNoSuchGame((house, game) -> house.unpin(game));
    }

    @Sentence(of = "Promise 19", says = {"Returns how many entries are pinned.", "Returns the number of entries."})
    private void promise19NoneAndAll() {
        checks.same("a new house", 0, new TileWarden().pinned());
        TileWarden house = allDepths();
        checks.same("entries, but no pins", 0, house.pinned());
        for (int depth = 1; depth <= 4; depth++) {
            house.pin(0, depth);
            house.pin(1, depth);
            checks.same("two pins each", depth, house.pinned());
        }
        house.setRoom(4);
        checks.same("all entries are pinned", 4, house.entries());
        checks.same("all entries are pinned", 4, house.pinned());
        house.unpin(0);
        checks.same("one pin each", 4, house.pinned());
        house.unpin(1);
        checks.same("no pins", 0, house.pinned());
    }

    @Sentence(of = "Promise 19", says = "Returns how many entries are pinned.")
    private void promise19APlaceThatIsUsedAgainIsNotPinned() {
        TileWarden house = Houses.oneGame(0);
        house.setRoom(1);
        int told = house.hint(0, 1);
        house.pin(0, 1);
        house.unpin(0);
        house.push(0, told);
        house.hint(0, 1);
        checks.same("another entry stands there", true, house.isCached(0, 1));
        checks.same("it is not pinned", 0, house.pinned());
        checks.same("sound", true, house.isSound());
    }
}
