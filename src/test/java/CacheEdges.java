/** The edges of the cache: "Cache" of the terms, and the promises 14 to 16. */
final class CacheEdges extends Edges {
    private static final int FIRST_ROOM = 24;
    private static final int MOST_ROOM = 64;
    private static final int[] NO_ROOM = {Integer.MIN_VALUE, -1, 0, 65, Integer.MAX_VALUE};

    CacheEdges(Checks checks) {
        super(checks);
    }

    // ---- entries: A to E are those of the games 0 to 4 at the depth 1

    /** A house with five games in five states, and with entries of the first ones, put in in their order. */
    private static TileWarden letters(int room, String order) {
        TileWarden house = Houses.players(9999, 0);
        for (int game = 0; game < 5; game++) {
            house.open(0, 7 + game);
        }
        house.setRoom(room);
        look(house, order);
        return house;
    }

    /** Buys hints at the depth 1, a letter each. */
    private static void look(TileWarden house, String letters) {
        for (int i = 0; i < letters.length(); i++) {
            house.hint(letters.charAt(i) - 'A', 1);
        }
    }

    /** Which of A to E are in the cache. */
    private static String letters(TileWarden house) {
        StringBuilder there = new StringBuilder();
        for (int game = 0; game < 5; game++) {
            if (house.isCached(game, 1)) {
                there.append((char) ('A' + game));
            }
        }
        return there.toString();
    }

    // ---- the terms

    @Sentence(of = "Terms", says = "The cache keeps worths and hints of states by depths, "
            + "at most as many entries as there is room for, 24 at first.")
    private void cacheRoomFor24AtFirst() {
        TileWarden house = Houses.oneGame(7);
        house.open(0, 0);
        house.hint(0, 1);
        for (int entries = 2; entries <= FIRST_ROOM; entries++) {
            house.push(1, house.hint(1, 1));
            checks.same("entries", entries, house.entries());
        }
        checks.same("full, the first is there still", true, house.isCached(0, 1));
        house.hint(1, 1);
        checks.same("one more, and there are 24", FIRST_ROOM, house.entries());
        checks.same("the first has gone", false, house.isCached(0, 1));
    }

    @Sentence(of = "Terms", says = "at most as many entries as there is room for")
    private void cacheRoomFor64AtMost() {
        TileWarden house = letters(MOST_ROOM, "A");
        for (int i = 0; i < 20 && house.entries() < 50; i++) {
            house.push(1, house.hint(1, 2));
        }
        checks.isTrue("nearly full", house.entries() >= 50 && house.entries() < MOST_ROOM);
        for (int entries = house.entries() + 1; entries <= MOST_ROOM; entries++) {
            house.push(2, house.hint(2, 1));
            checks.same("entries", entries, house.entries());
        }
        checks.same("full, the first is there still", true, house.isCached(0, 1));
        house.hint(2, 1);
        checks.same("one more, and there are 64", MOST_ROOM, house.entries());
        checks.same("the first has gone", false, house.isCached(0, 1));
    }

    @Sentence(of = "Terms", says = "at most as many entries as there is room for")
    private void cacheRoomFor1AtLeast() {
        TileWarden house = letters(1, "A");
        checks.same("one", "A", letters(house));
        look(house, "B");
        checks.same("another in its place", "B", letters(house));
        house.hint(2, 4);
        checks.same("one", 1, house.entries());
        checks.same("what was put in last", true, house.isCached(2, 4));
    }

    @Sentence(of = "Terms", says = "A worth at a depth from 1 on is looked for in the cache")
    private void cacheTheDepth0IsNotLookedFor() {
        TileWarden house = Houses.oneGame(7);
        checks.same("the price at the depth 1", 1, house.price(0, 1));
        house.hint(0, 1);
        checks.same("one entry", 1, house.entries());
        checks.same("no hits", 0f, house.hitShare());
        house.hint(0, 1);
        checks.same("one hit, one miss", 0.5f, house.hitShare());
        checks.same("nothing more", 1, house.entries());
    }

    @Sentence(of = "Terms", says = {"if it is there, this is a hit, and it has been used now",
        "If there is no room, the entry that was used longest ago of those that are not pinned goes first"})
    private void cacheAHitIsAUse() {
        TileWarden house = letters(3, "ABC");
        look(house, "D");
        checks.same("without a hit the first goes", "BCD", letters(house));
        TileWarden hit = letters(3, "ABCA");
        look(hit, "D");
        checks.same("behind a hit the second goes", "ACD", letters(hit));
        look(hit, "E");
        checks.same("and then the third", "ADE", letters(hit));
        look(hit, "B");
        checks.same("and then the one that was hit", "BDE", letters(hit));
    }

    /** The game 0 is in a state with one way, and the game 1 in the state behind it; 2 and 3 are elsewhere. */
    private static TileWarden oneWay(int room) {
        TileWarden house = Houses.players(9999);
        for (int seed : new int[] {24, 24, 8, 9}) {
            house.open(0, seed);
        }
        Houses.go(house, 0, 1);
        Houses.go(house, 1, 1, 3);
        house.setRoom(room);
        return house;
    }

    @Sentence(of = "Terms", says = "with the worths behind them looked for likewise")
    private void cacheAHitBehindAPushIsAUse() {
        TileWarden house = oneWay(3);
        house.hint(1, 1);
        house.hint(2, 1);
        checks.same("one hit, one miss", 1, house.price(0, 2));
        house.hint(0, 2);
        checks.same("one hit of four looks", 1f / 4f, house.hitShare());
        house.hint(3, 1);
        checks.same("the one that was not used goes", false, house.isCached(2, 1));
        checks.same("the one that was used stays", true, house.isCached(1, 1));
        checks.same("so does what was put in", true, house.isCached(0, 2));
    }

    @Sentence(of = "Terms", says = "then it is put into the cache as used now")
    private void cacheItIsPutInBehindThoseThatItLooksFor() {
        TileWarden house = oneWay(2);
        checks.same("two misses", 2, house.price(0, 2));
        house.hint(0, 2);
        checks.same("both are there", true, house.isCached(1, 1) && house.isCached(0, 2));
        house.hint(2, 1);
        checks.same("the state behind goes first", false, house.isCached(1, 1));
        checks.same("the state itself stays", true, house.isCached(0, 2));
    }

    @Sentence(of = "Terms", says = "pushes that can be done are gone through from 0 on")
    private void cachePushesAreGoneThroughFrom0On() {
        // From 210 000 000, one push up from the start of the seed 11, only right and down can be done.
        TileWarden house = Houses.players(9999);
        for (int seed : new int[] {11, 11, 11, 8, 9}) {
            house.open(0, seed);
        }
        Houses.go(house, 0, 0);
        Houses.go(house, 1, 0, 1);
        Houses.go(house, 2, 0, 2);
        house.setRoom(3);
        checks.same("three misses", 3, house.price(0, 2));
        house.hint(0, 2);
        house.hint(3, 1);
        checks.same("behind right goes first", false, house.isCached(1, 1));
        checks.same("behind down stays", true, house.isCached(2, 1));
        house.hint(4, 1);
        checks.same("behind down goes next", false, house.isCached(2, 1));
        checks.same("the state itself stays", true, house.isCached(0, 2));
    }

    @Sentence(of = "Terms", says = {"Otherwise it is a miss", "also if no push can be done"})
    private void cacheAStateThatIsOverIsPutInToo() {
        TileWarden house = Houses.players(9999);
        house.open(0, 21);
        house.open(0, 21);
        Houses.go(house, 0, Houses.ways("32133002"));
        Houses.go(house, 1, Houses.toTheEnd());
        checks.same("over", true, house.isOver(1));
        int price = house.price(0, 2);
        house.hint(0, 2);
        checks.same("each miss is an entry", price, house.entries());
        checks.same("the state that is over, too", true, house.isCached(1, 1));
        house.pin(1, 1);
        house.setRoom(1);
        checks.same("it alone is left", 1, house.entries());
        checks.same("it is a hit", price - 1, house.price(0, 2));
        checks.same("it has no other depth", false, house.isCached(1, 2));
        checks.same("sound", true, house.isSound());
    }

    @Sentence(of = "Terms", says = "Nothing else uses an entry.")
    private void cacheNothingElseUsesAnEntry() {
        stays("price", house -> house.price(0, 1));
        stays("a deep price", house -> house.price(0, 4));
        stays("worth", house -> house.worth(0, 4));
        stays("isCached", house -> house.isCached(0, 1));
        stays("pin and unpin", house -> house.pin(0, 1) + house.unpin(0));
        stays("entries", TileWarden::entries);
        stays("isSound", TileWarden::isSound);
        stays("setRoom", house -> house.setRoom(MOST_ROOM));
        stays("another game comes there", house -> house.open(0, 7));
        stays("judge", house -> house.judge(0));
        TileWarden used = letters(FIRST_ROOM, "ABA");
        used.setRoom(1);
        checks.same("but a hint does", "A", letters(used));
    }

    @Sentence(of = "Terms", says = "Nothing else uses an entry.")
    private void cacheUnpinningLeavesTheOrderAsItIs() {
        for (int pinned = 0; pinned < 3; pinned++) {
            TileWarden house = letters(FIRST_ROOM, "ABCBA");
            house.pin(pinned, 1);
            house.unpin(pinned);
            house.setRoom(2);
            checks.same("the one used longest ago has gone", "AB", letters(house));
            house.setRoom(1);
            checks.same("the one used last stays", "A", letters(house));
        }
    }

    /** Checks that a call that looks at A does not make it younger than B. */
    private void stays(String what, Sequel.Call call) {
        TileWarden house = letters(FIRST_ROOM, "AB");
        call.on(house);
        house.setRoom(1);
        checks.same(what + " uses nothing", "B", letters(house));
    }

    @Sentence(of = "Terms", says = "Nothing else uses an entry.")
    private void cacheARefusedHintUsesNothing() {
        TileWarden poor = letters(FIRST_ROOM, "AB");
        poor.open(1, 7);
        checks.refused("the poor player", MISSING, () -> poor.hint(5, 1));
        poor.setRoom(1);
        checks.same("too little money", "B", letters(poor));
        TileWarden full = letters(FIRST_ROOM, "AB");
        for (int i = 0; i < 58; i++) {
            look(full, "B");
        }
        checks.refused("60 traces", STATE, () -> full.hint(0, 1));
        full.setRoom(1);
        checks.same("60 traces", "B", letters(full));
    }

    @Sentence(of = "Terms", says = "the entry that was used longest ago of those that are not pinned goes first")
    private void cachePinnedEntriesStay() {
        TileWarden house = letters(3, "ABC");
        house.pin(0, 1);
        look(house, "D");
        checks.same("the second oldest goes", "ACD", letters(house));
        house.pin(2, 1);
        look(house, "E");
        checks.same("the only one that is not pinned goes", "ACE", letters(house));
        look(house, "B");
        checks.same("the place is used again", "ABC", letters(house));
        house.unpin(0);
        look(house, "D");
        checks.same("unpinned, it is the oldest still", "BCD", letters(house));
    }

    @Sentence(of = "Terms", says = "if all are pinned, it is not put in")
    private void cacheAllPinned() {
        TileWarden house = letters(2, "AB");
        house.pin(0, 1);
        house.pin(1, 1);
        int price = house.price(2, 2);
        house.hint(2, 2);
        checks.same("two", 2, house.entries());
        checks.same("not the state", false, house.isCached(2, 2));
        checks.same("nor those behind it", price, house.price(2, 2));
        look(house, "C");
        checks.same("still the same", "AB", letters(house));
        house.hint(0, 1);
        house.setRoom(3);
        look(house, "CD");
        checks.same("one place more, used again", "ABD", letters(house));
        house.unpin(1);
        look(house, "E");
        checks.same("an unpinned one goes", "ADE", letters(house));
    }

    @Sentence(of = "Terms", says = "The price of a hint is the number of misses that it makes, 1 at least.")
    private void cachePriceIsTheNumberOfMisses() {
        TileWarden one = oneWay(FIRST_ROOM);
        checks.same("one miss", 1, one.price(0, 1));
        checks.same("two misses", 2, one.price(0, 2));
        one.hint(0, 2);
        checks.same("no misses", 1, one.price(0, 2));
        one.hint(0, 2);
        checks.same("2 and 1 are paid", 9999 - 3, one.money(0));
        // From the seed 0, two states at the depth 3 are looked for twice.
        checks.same("a state that comes again is a hit", 19, withRoom(MOST_ROOM).price(0, 3));
        checks.same("unless it has gone already", 21, withRoom(1).price(0, 3));
        checks.same("with room for all", 53, withRoom(MOST_ROOM).price(0, 4));
        checks.same("with the room at first", 62, Houses.oneGame(0).price(0, 4));
        checks.same("with room for one", 82, withRoom(1).price(0, 4));
    }

    private static TileWarden withRoom(int room) {
        TileWarden house = Houses.oneGame(0);
        house.setRoom(room);
        return house;
    }

    @Sentence(of = "Terms", says = "The cache never changes a hint")
    private void cacheNeverChangesAHint() {
        for (int room : new int[] {1, 2, 3, FIRST_ROOM, MOST_ROOM}) {
            TileWarden house = Houses.twins(5);
            house.setRoom(room);
            for (int step = 0; step < 12; step++) {
                int depth = 1 + step % 4;
                TileWarden fresh = Houses.oneGame(5);
                for (int i = 0; i < step; i++) {
                    fresh.push(0, house.pushOf(2 * i));
                }
                int told = house.hint(0, depth);
                checks.same("room " + room + ", step " + step, fresh.hint(0, depth), told);
                checks.same("told again", told, house.hint(1, depth));
                house.push(0, told);
                house.push(1, told);
            }
        }
    }

    // ---- promise 14: setRoom

    @Sentence(of = "Promise 14", says = {"- `room`: how many, 1 to 64", "Returns how many entries there are."})
    private void promise14SmallestAndLargestRoom() {
        TileWarden empty = new TileWarden();
        checks.same("the smallest, empty", 0, empty.setRoom(1));
        checks.same("the largest, empty", 0, empty.setRoom(MOST_ROOM));
        TileWarden house = letters(FIRST_ROOM, "ABCDE");
        checks.same("the largest", 5, house.setRoom(MOST_ROOM));
        checks.same("just as many as there are", 5, house.setRoom(5));
        checks.same("one less", 4, house.setRoom(4));
        checks.same("the smallest", 1, house.setRoom(1));
        checks.same("the smallest again", 1, house.setRoom(1));
        checks.same("the largest brings none back", 1, house.setRoom(MOST_ROOM));
    }

    @Sentence(of = "Promise 14", says = "Sets for how many entries there is room")
    private void promise14TheRoomHoldsFromThenOn() {
        TileWarden house = letters(2, "ABC");
        checks.same("two", "BC", letters(house));
        house.setRoom(4);
        look(house, "DEA");
        checks.same("four", "ACDE", letters(house));
        house.setRoom(MOST_ROOM);
        look(house, "B");
        checks.same("five", "ABCDE", letters(house));
        house.hint(4, 4);
        checks.isTrue("more than at first", house.entries() > FIRST_ROOM);
        checks.same("from the largest to the first", FIRST_ROOM, house.setRoom(FIRST_ROOM));
    }

    @Sentence(of = "Promise 14", says = "those used longest ago that are not pinned go, as long as there are too many")
    private void promise14ThoseUsedLongestAgoGo() {
        TileWarden house = letters(FIRST_ROOM, "ABCDE");
        house.setRoom(5);
        checks.same("none is too many", "ABCDE", letters(house));
        house.setRoom(4);
        checks.same("one", "BCDE", letters(house));
        house.setRoom(2);
        checks.same("two", "DE", letters(house));
        TileWarden used = letters(FIRST_ROOM, "ABCDEAC");
        used.setRoom(3);
        checks.same("by their use", "ACE", letters(used));
        used.setRoom(1);
        checks.same("the last used stays", "C", letters(used));
        TileWarden pinned = letters(FIRST_ROOM, "ABCDE");
        pinned.pin(0, 1);
        pinned.pin(2, 1);
        pinned.setRoom(3);
        checks.same("not those that are pinned", "ACE", letters(pinned));
        pinned.setRoom(2);
        checks.same("only those that are pinned", "AC", letters(pinned));
    }

    @Sentence(of = "Promise 14", says = "Throws `IllegalArgumentException` if it is out of range")
    private void promise14RoomOutOfRange() {
        for (int room : NO_ROOM) {
            undisturbed.refused("room " + room, ARGUMENT, Houses::lively, house -> house.setRoom(room));
            undisturbed.refused("empty, room " + room, ARGUMENT, TileWarden::new, house -> house.setRoom(room));
        }
    }

    @Sentence(of = "Promise 14", says = "Throws `UnsupportedOperationException` if more than so many are pinned")
    private void promise14JustAsManyAndMoreArePinned() {
        TileWarden house = letters(FIRST_ROOM, "ABCDE");
        house.pin(1, 1);
        house.pin(3, 1);
        house.pin(4, 1);
        checks.refused("three are pinned", UNSUPPORTED, () -> house.setRoom(2));
        checks.refused("three are pinned", UNSUPPORTED, () -> house.setRoom(1));
        checks.same("nothing has gone", "ABCDE", letters(house));
        checks.same("just as many", 3, house.setRoom(3));
        checks.same("these are left", "BDE", letters(house));
        undisturbed.refused("two are pinned", UNSUPPORTED, Houses::lively, each -> each.setRoom(1));
        undisturbed.refused("all 24 are pinned but one", UNSUPPORTED, CacheEdges::manyPinned,
                each -> each.setRoom(each.pinned() - 1));
        TileWarden twice = Houses.twins(7);
        twice.hint(0, 2);
        twice.pin(0, 2);
        twice.pin(1, 2);
        checks.same("two pins of one entry are one that is pinned", 1, twice.setRoom(1));
    }

    /** A house with 24 entries where many are pinned. */
    private static TileWarden manyPinned() {
        TileWarden house = letters(FIRST_ROOM, "");
        for (int game = 0; game < 5; game++) {
            house.hint(game, 1);
            house.pin(game, 1);
            house.hint(game, 2);
            house.pin(game, 2);
        }
        return house;
    }

    @Sentence(of = "Terms", says = "If several exceptions apply, the exception that is listed first is thrown.")
    private void promise14FirstExceptionFirst() {
        for (int room : new int[] {0, -1, Integer.MIN_VALUE}) {
            undisturbed.refused("range ahead of pinned", ARGUMENT, Houses::lively, house -> house.setRoom(room));
            undisturbed.refused("range ahead of pinned", ARGUMENT, CacheEdges::manyPinned,
                    house -> house.setRoom(room));
        }
    }

    // ---- promises 15 and 16: entries and isCached

    @Sentence(of = "Promise 15", says = {"Returns how many entries there are.", "Returns the number of entries."})
    private void promise15NoneAndAll() {
        checks.same("a new house", 0, new TileWarden().entries());
        TileWarden house = letters(FIRST_ROOM, "");
        checks.same("before a hint", 0, house.entries());
        look(house, "A");
        checks.same("one", 1, house.entries());
        look(house, "A");
        checks.same("one still", 1, house.entries());
        look(house, "BCDE");
        checks.same("five", 5, house.entries());
        house.hint(0, 4);
        checks.same("full at first", FIRST_ROOM, house.entries());
        house.setRoom(MOST_ROOM);
        for (int game = 0; game < 5; game++) {
            house.hint(game, 4);
        }
        checks.same("full at most", MOST_ROOM, house.entries());
        house.setRoom(1);
        checks.same("full at least", 1, house.entries());
    }

    @Sentence(of = "Promise 15", says = "Returns how many entries there are.")
    private void promise15PinnedOnesAndOthers() {
        TileWarden house = manyPinned();
        checks.same("pinned or not", FIRST_ROOM, house.entries());
        for (int game = 0; game < 5; game++) {
            house.unpin(game);
        }
        checks.same("unpinning takes none away", FIRST_ROOM, house.entries());
    }

    @Sentence(of = "Promise 16", says = {"Returns whether the state of a game is in the cache at a depth.",
        "- `depth`: the depth, 1 to 4", "Returns whether it is.", "- `game`: the number of the game"})
    private void promise16SmallestAndLargestDepth() {
        for (int depth = 1; depth <= 4; depth++) {
            TileWarden house = Houses.oneGame(7);
            house.open(0, 8);
            house.setRoom(MOST_ROOM);
            for (int asked = 1; asked <= 4; asked++) {
                checks.same("empty, the depth " + asked, false, house.isCached(0, asked));
            }
            house.hint(0, depth);
            for (int asked = 1; asked <= 4; asked++) {
                checks.same("hint " + depth + ", the depth " + asked, asked == depth, house.isCached(0, asked));
                checks.same("another game, the depth " + asked, false, house.isCached(1, asked));
            }
        }
    }

    @Sentence(of = "Promise 16", says = "Returns whether the state of a game is in the cache at a depth.")
    private void promise16TheStateThatTheGameIsIn() {
        TileWarden house = Houses.voidGame();
        house.hint(0, 2);
        checks.same("the same state of a void game", true, house.isCached(1, 2));
        int way = Houses.firstWay(house, 0);
        house.push(0, way);
        checks.same("it has gone on", false, house.isCached(0, 2));
        checks.same("the state behind it", true, house.isCached(0, 1));
        checks.same("over, without an entry", false, Houses.over().isCached(0, 1));
    }

    @Sentence(of = "Promise 16", says = "Throws `IndexOutOfBoundsException` if there is no such game")
    private void promise16NoSuchGame() {
        refusesNoSuchGame((house, game) -> house.isCached(game, 1));
    }

    @Sentence(of = "Promise 16", says = "Throws `IllegalArgumentException` if the depth is out of range")
    private void promise16DepthOutOfRange() {
        refusesNoSuchDepth((house, depth) -> house.isCached(5, depth));
        undisturbed.refused("the depth 0, empty", ARGUMENT, () -> Houses.oneGame(7), house -> house.isCached(0, 0));
        undisturbed.refused("the depth 5, empty", ARGUMENT, () -> Houses.oneGame(7), house -> house.isCached(0, 5));
    }

    @Sentence(of = "Terms", says = "If several exceptions apply, the exception that is listed first is thrown.")
    private void promise16FirstExceptionFirst() {
        undisturbed.refused("game ahead of depth", INDEX, Houses::lively, house -> house.isCached(7, 0));
        undisturbed.refused("game ahead of depth", INDEX, Houses::lively, house -> house.isCached(-1, 5));
    }
}
