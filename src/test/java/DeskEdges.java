/** The edges of the desk: "Traces" of the terms, and the promises 20 to 26. */
final class DeskEdges extends Edges {
    private static final int[] NO_LIMIT = {Integer.MIN_VALUE, -1, 0, 10, Integer.MAX_VALUE};
    /** With the seed 0, hints tell up at the depth 1 and right at the depth 3. */
    private static final int TWO_HINTS = 0;

    DeskEdges(Checks checks) {
        super(checks);
    }

    /** A house where the game 1 has followed so many pushes of the game 0, one behind the other. */
    private static TileWarden followed(int steps) {
        TileWarden house = Houses.twins(3);
        Houses.chase(house, steps);
        return house;
    }

    /** Pushes both games alike, without a hint. */
    private static void pushBoth(TileWarden house) {
        int way = Houses.firstWay(house, 0);
        house.push(0, way);
        house.push(1, way);
    }

    // ---- the terms: what follows

    @Sentence(of = "Terms",
            says = "A hint that is sold leaves a trace: the player, the state, and the push that it told.")
    private void tracesAHintThatIsSoldLeavesOne() {
        TileWarden house = Houses.twins(2);
        house.hint(1, 1);
        checks.same("one", 1, house.traces());
        checks.same("its player", 1, house.playerOf(0));
        checks.same("its push", 1, house.pushOf(0));
        house.push(0, 1);
        checks.same("its state", 1, house.follows(0));
        house.push(1, 1);
        house.hint(0, 1);
        checks.same("the next one", 2, house.traces());
        checks.same("its player", 0, house.playerOf(1));
        checks.same("the first is the first", 1, house.playerOf(0));
        house.price(0, 2);
        house.worth(0, 2);
        checks.same("asking leaves none", 2, house.traces());
    }

    @Sentence(of = "Terms", says = "A push of a game follows another one's hint if, ahead of it, "
            + "a trace of another player was left with just this state and push")
    private void tracesAheadOfThePush() {
        TileWarden ahead = Houses.twins(3);
        ahead.push(1, ahead.hint(0, 1));
        checks.same("just ahead", 1, ahead.follows(1));
        TileWarden behind = Houses.twins(3);
        behind.push(1, 0);
        checks.same("the same would be told", 0, behind.hint(0, 1));
        checks.same("just behind", 0, behind.follows(1));
        TileWarden early = Houses.twins(3);
        int told = early.hint(0, 1);
        Houses.playToTheEnd(early, 0);
        early.push(1, told);
        checks.same("long ahead", 1, early.follows(1));
    }

    @Sentence(of = "Terms", says = "a trace of another player was left")
    private void tracesOfAnotherPlayer() {
        TileWarden other = Houses.twins(3);
        other.push(1, other.hint(0, 1));
        checks.same("another player's", 1, other.follows(1));
        TileWarden own = Houses.twins(3);
        own.push(0, own.hint(0, 1));
        checks.same("one's own", 0, own.follows(0));
        TileWarden same = Houses.oneGame(3);
        same.open(0, 3);
        same.push(1, same.hint(0, 1));
        checks.same("one's own from another game", 0, same.follows(1));
        TileWarden none = Houses.twins(3);
        none.push(1, 0);
        checks.same("nobody's", 0, none.follows(1));
    }

    @Sentence(of = "Terms", says = "with just this state and push")
    private void tracesWithJustThisState() {
        // The seeds 4 and 27 begin with the same board.
        TileWarden sameBoard = Houses.players(9999, 9999);
        sameBoard.open(0, 4);
        sameBoard.open(1, 27);
        checks.same("the same board", Houses.board(sameBoard, 0), Houses.board(sameBoard, 1));
        sameBoard.push(1, sameBoard.hint(0, 1));
        checks.same("with another z", 0, sameBoard.follows(1));
        TileWarden sameZ = Houses.twins(7);
        sameZ.push(0, 0);
        sameZ.push(1, 2);
        int told = sameZ.hint(0, 1);
        checks.isTrue("it can be pushed there too", sameZ.canPush(1, told));
        sameZ.push(1, told);
        checks.same("with another board", 0, sameZ.follows(1));
    }

    @Sentence(of = "Terms", says = "with just this state and push")
    private void tracesWithJustThisPush() {
        for (int to = 0; to < 4; to++) {
            TileWarden house = Houses.twins(TWO_HINTS);
            checks.same("the depth 1 tells", 0, house.hint(0, 1));
            house.push(1, to);
            checks.same("up is told, pushed " + to, to == 0 ? 1 : 0, house.follows(1));
            TileWarden two = Houses.twins(TWO_HINTS);
            two.hint(0, 1);
            checks.same("the depth 3 tells", 1, two.hint(0, 3));
            two.push(1, to);
            checks.same("up and right are told, pushed " + to, to < 2 ? 1 : 0, two.follows(1));
        }
    }

    @Sentence(of = "Terms", says = "and none with this state of the player of the game, whatever it told")
    private void tracesOfOnesOwnWithThisState() {
        for (int depth = 1; depth <= 3; depth += 2) {
            TileWarden ownFirst = Houses.twins(TWO_HINTS);
            ownFirst.hint(1, depth);
            ownFirst.push(1, ownFirst.hint(0, 1));
            checks.same("one's own ahead of the other's, the depth " + depth, 0, ownFirst.follows(1));
            TileWarden ownLast = Houses.twins(TWO_HINTS);
            int told = ownLast.hint(0, 1);
            ownLast.hint(1, depth);
            ownLast.push(1, told);
            checks.same("one's own behind the other's, the depth " + depth, 0, ownLast.follows(1));
            TileWarden sibling = Houses.twins(TWO_HINTS);
            sibling.open(1, TWO_HINTS);
            sibling.hint(2, depth);
            sibling.push(1, sibling.hint(0, 1));
            checks.same("one's own from another game, the depth " + depth, 0, sibling.follows(1));
        }
        TileWarden elsewhere = Houses.twins(3);
        elsewhere.open(1, 7);
        elsewhere.hint(2, 1);
        elsewhere.push(1, elsewhere.hint(0, 1));
        checks.same("one's own with another state", 1, elsewhere.follows(1));
        TileWarden third = Houses.twins(3);
        third.addPlayer(9999);
        third.open(2, 3);
        third.hint(2, 1);
        third.push(1, third.hint(0, 1));
        checks.same("a third player's", 1, third.follows(1));
    }

    @Sentence(of = "Terms", says = "traces that are left later do not matter")
    private void tracesThatAreLeftLater() {
        TileWarden own = Houses.twins(3);
        own.open(1, 3);
        own.push(1, own.hint(0, 1));
        own.hint(2, 1);
        checks.same("one's own does not undo it", 1, own.follows(1));
        TileWarden other = Houses.twins(3);
        other.push(1, 0);
        other.hint(0, 1);
        other.hint(0, 1);
        checks.same("another's does not make it", 0, other.follows(1));
    }

    @Sentence(of = "Terms", says = "and those of void games stay")
    private void tracesOfVoidGamesStay() {
        TileWarden house = followed(3);
        house.hint(1, 1);
        int traces = house.traces();
        house.judge(1);
        checks.same("none goes", traces, house.traces());
        checks.same("its player", 1, house.playerOf(traces - 1));
        house.push(0, house.pushOf(traces - 1));
        checks.same("they can be followed", 1, house.follows(0));
        house.open(1, 3);
        for (int i = 0; i < 3; i++) {
            house.push(2, house.pushOf(i));
        }
        checks.same("three of another", 3, house.follows(2));
        house.hint(0, 1);
        house.push(2, house.pushOf(traces - 1));
        checks.same("one's own from a void game is one's own", 3, house.follows(2));
    }

    // ---- the terms: the desk

    @Sentence(of = "Terms",
            says = "The desk judges a game by its longest row of pushes, one behind the other, that follow")
    private void deskJudgesByTheLongestRow() {
        TileWarden house = followed(2);
        pushBoth(house);
        Houses.chase(house, 2);
        checks.same("two and two are not four", 2, house.follows(1));
        checks.same("nor three", -1, house.judge(1));
        pushBoth(house);
        Houses.chase(house, 3);
        pushBoth(house);
        Houses.chase(house, 1);
        checks.same("the longest is not the last", 3, house.follows(1));
        checks.same("it is three", 0, house.judge(1));
        TileWarden between = followed(2);
        between.open(1, 3);
        between.push(2, 3);
        Houses.chase(between, 1);
        checks.same("pushes of another game do not part a row", 3, between.follows(1));
    }

    @Sentence(of = "Terms", says = "if this is at least the limit, 3 at first, the game is void")
    private void deskLimitIs3AtFirst() {
        for (int steps = 0; steps <= 4; steps++) {
            TileWarden house = followed(steps);
            checks.same("judged behind " + steps, steps < 3 ? -1 : 0, house.judge(1));
            checks.same("void behind " + steps, steps >= 3, house.isVoid(1));
            checks.same("the other is not", -1, house.judge(0));
        }
    }

    @Sentence(of = "Terms", says = "all its pins are gone")
    private void deskTakesAllPinsOfAVoidGame() {
        TileWarden house = followed(3);
        house.hint(1, 2);
        house.pin(1, 2);
        house.pin(0, 2);
        pushBoth(house);
        house.pin(1, 1);
        checks.same("two entries", 2, house.pinned());
        house.judge(1);
        checks.same("one that the other pins too", 1, house.pinned());
        checks.same("none of its own", 0, house.unpin(1));
        checks.same("the other's", 1, house.unpin(0));
        TileWarden notVoid = followed(2);
        notVoid.hint(1, 1);
        notVoid.pin(1, 1);
        checks.same("not void", -1, notVoid.judge(1));
        checks.same("it keeps its pins", 1, notVoid.unpin(1));
    }

    @Sentence(of = "Terms", says = "and what its player paid for hints in this game is paid back")
    private void deskPaysBackWhatWasPaidInThisGame() {
        TileWarden house = Houses.players(9999, 100);
        house.open(0, 3);
        house.open(1, 3);
        house.open(1, 7);
        house.hint(2, 2);
        checks.same("5 in another game", 95, house.money(1));
        house.push(1, house.hint(0, 1));
        Houses.go(house, 0, house.pushOf(1));
        Houses.chase(house, 2);
        int price = house.price(1, 3);
        house.hint(1, 3);
        house.hint(1, 3);
        checks.same("paid", 95 - price - 1, house.money(1));
        int others = house.money(0);
        checks.same("paid back", price + 1, house.judge(1));
        checks.same("but not for the other game", 95, house.money(1));
        checks.same("the other pays nothing", others, house.money(0));
        checks.same("nothing was paid, nothing is paid back", 0, followed(3).judge(1));
    }

    @Sentence(of = "Terms", says = "A game that is void takes no pushes, hints and pins, and is not judged again.")
    private void deskAVoidGameTakesNothing() {
        TileWarden house = followed(3);
        house.hint(0, 1);
        house.judge(1);
        for (int to = 0; to < 4; to++) {
            int way = to;
            checks.refused("push", UNSUPPORTED, () -> house.push(1, way));
            checks.refused("hint", UNSUPPORTED, () -> house.hint(1, way + 1));
            checks.refused("pin", UNSUPPORTED, () -> house.pin(1, way + 1));
        }
        checks.refused("judge", UNSUPPORTED, () -> house.judge(1));
        checks.same("its player has money and may open another", 2, house.open(1, 3));
        checks.same("and buy there", 0, house.hint(2, 1));
    }

    // ---- promise 20: follows

    @Sentence(of = "Promise 20", says = {"Returns the length of the longest row of pushes of a game that follow.",
        "Returns the number of pushes.", "- `game`: the number of the game"})
    private void promise20NoneAndMany() {
        checks.same("without pushes", 0, Houses.oneGame(3).follows(0));
        TileWarden house = Houses.twins(0);
        for (int steps = 1; steps <= 20; steps++) {
            Houses.chase(house, 1);
            checks.same("the row", steps, house.follows(1));
            checks.same("the other's", 0, house.follows(0));
        }
        house.judge(1);
        checks.same("void", 20, house.follows(1));
    }

    @Sentence(of = "Promise 20", says = "Returns the length of the longest row of pushes of a game that follow.")
    private void promise20ARefusedPushDoesNotPartARow() {
        TileWarden house = followed(2);
        int told = house.hint(0, 1);
        for (int to = 0; to < 4; to++) {
            int way = to;
            if (!house.canPush(1, to)) {
                checks.refused("a push that cannot be done", UNSUPPORTED, () -> house.push(1, way));
            }
        }
        checks.refused("no way", ARGUMENT, () -> house.push(1, 4));
        house.push(1, told);
        checks.same("the row", 3, house.follows(1));
    }

    @Sentence(of = "Promise 20", says = "Throws `IndexOutOfBoundsException` if there is no such game")
    private void promise20NoSuchGame() {
        refusesNoSuchGame((house, game) -> house.follows(game));
    }

    // ---- promise 21: setLimit

    @Sentence(of = "Promise 21", says = {"Sets the limit.", "- `limit`: the limit, 1 to 9", "Returns the one before."})
    private void promise21SmallestAndLargestLimit() {
        TileWarden house = new TileWarden();
        checks.same("3 at first", 3, house.setLimit(1));
        checks.same("the smallest", 1, house.setLimit(9));
        checks.same("the largest", 9, house.setLimit(9));
        checks.same("the largest again", 9, house.setLimit(2));
        checks.same("the last one", 2, house.setLimit(3));
    }

    @Sentence(of = "Promise 21", says = "Sets the limit.")
    private void promise21TheSmallestAndTheLargestJudge() {
        for (int limit = 1; limit <= 9; limit++) {
            TileWarden below = followed(limit - 1);
            below.setLimit(limit);
            checks.same("one less than " + limit, -1, below.judge(1));
            TileWarden at = followed(limit);
            at.setLimit(limit);
            checks.same("just " + limit, 0, at.judge(1));
        }
        TileWarden house = followed(3);
        house.judge(1);
        house.setLimit(9);
        checks.same("a void game stays void", true, house.isVoid(1));
        house.setLimit(1);
        checks.same("no game is void by this alone", false, house.isVoid(0));
    }

    @Sentence(of = "Promise 21", says = "Throws `IllegalArgumentException` if it is out of range")
    private void promise21LimitOutOfRange() {
        refusesEach(ARGUMENT, NO_LIMIT, (house, limit) -> house.setLimit(limit));
        TileWarden house = followed(3);
        checks.refused("0", ARGUMENT, () -> house.setLimit(0));
        checks.refused("10", ARGUMENT, () -> house.setLimit(10));
        checks.same("3 still", 3, house.setLimit(3));
    }

    // ---- promise 22: judge

    @Sentence(of = "Promise 22", says = {"Judges a game.", "- `game`: the number of the game",
        "Returns what is paid back, or -1 if the game is not void by this."})
    private void promise22NothingAndAll() {
        checks.same("not void", -1, followed(2).judge(1));
        checks.same("void, nothing was paid", 0, followed(3).judge(1));
        TileWarden one = followed(3);
        one.hint(0, 1);
        one.hint(1, 1);
        checks.same("void, 1 was paid", 1, one.judge(1));
        TileWarden all = Houses.players(9999, 60);
        all.open(0, 0);
        all.open(1, 0);
        Houses.chase(all, 3);
        for (int i = 0; all.money(1) > 0 && i < 40; i++) {
            buyOrGoOn(all);
        }
        checks.same("all is paid", 0, all.money(1));
        checks.same("all is paid back", 60, all.judge(1));
        checks.same("all is there", 60, all.money(1));
    }

    /** Lets the game 1 buy a hint that its player can pay. */
    private static void buyOrGoOn(TileWarden house) {
        int depth = 4;
        while (depth > 1 && house.price(1, depth) > house.money(1)) {
            depth--;
        }
        house.hint(1, depth);
    }

    @Sentence(of = "Promise 22", says = "or -1 if the game is not void by this")
    private void promise22NothingChangesIfItIsNotVoid() {
        undisturbed.asked("judge below the limit", Houses::lively, house -> house.judge(3));
        undisturbed.asked("judge of who has pins", Houses::lively, house -> house.judge(5));
        undisturbed.asked("judge of a new game", () -> Houses.oneGame(3), house -> house.judge(0));
        undisturbed.asked("judge of a game that is over", Houses::lively, house -> house.judge(2));
        TileWarden house = followed(2);
        checks.same("judged", -1, house.judge(1));
        checks.same("judged again", -1, house.judge(1));
        Houses.chase(house, 1);
        checks.same("and void at last", 0, house.judge(1));
        TileWarden over = followed(3);
        Houses.playToTheEnd(over, 1);
        checks.same("a game that is over can be void", 0, over.judge(1));
    }

    @Sentence(of = "Promise 22", says = "Throws `IndexOutOfBoundsException` if there is no such game")
    private void promise22NoSuchGame() {
        refusesNoSuchGame((house, game) -> house.judge(game));
    }

    @Sentence(of = "Promise 22", says = "Throws `UnsupportedOperationException` if it is void")
    private void promise22VoidGame() {
        undisturbed.refused("judged again", UNSUPPORTED, Houses::lively, house -> house.judge(1));
        undisturbed.refused("paid back already", UNSUPPORTED, Houses::voidGame, house -> house.judge(1));
        undisturbed.refused("with a limit above", UNSUPPORTED, DeskEdges::voidBelowTheLimit,
                house -> house.judge(1));
    }

    private static TileWarden voidBelowTheLimit() {
        TileWarden house = Houses.voidGame();
        house.setLimit(9);
        return house;
    }

    // ---- promise 23: isVoid

    @Sentence(of = "Promise 23", says = {"Returns whether a game is void.", "Returns whether it is.",
        "- `game`: the number of the game"})
    private void promise23JustBeforeAndBehind() {
        TileWarden house = followed(12);
        house.hint(1, 1);
        house.pin(1, 1);
        house.push(1, house.pushOf(house.traces() - 1));
        checks.same("before it is judged", false, house.isVoid(1));
        house.judge(0);
        checks.same("another is judged", false, house.isVoid(1));
        house.judge(1);
        checks.same("judged", true, house.isVoid(1));
        checks.same("the other", false, house.isVoid(0));
        checks.same("over is not void", false, Houses.over().isVoid(0));
    }

    @Sentence(of = "Promise 23", says = "Throws `IndexOutOfBoundsException` if there is no such game")
    private void promise23NoSuchGame() {
        refusesNoSuchGame((house, game) -> house.isVoid(game));
    }

    // ---- promises 24 to 26: traces, playerOf and pushOf

    @Sentence(of = "Promise 24", says = {"Returns how many traces there are.", "Returns the number of traces."})
    private void promise24NoneAnd60() {
        checks.same("a new house", 0, new TileWarden().traces());
        TileWarden house = Houses.oneGame(7);
        checks.same("before a hint", 0, house.traces());
        for (int traces = 1; traces <= 60; traces++) {
            house.hint(0, 1);
            checks.same("traces", traces, house.traces());
        }
        checks.refused("one more", STATE, () -> house.hint(0, 1));
        checks.same("60 at most", 60, house.traces());
    }

    @Sentence(of = "Promise 25", says = {"Returns the player of a trace.", "- `trace`: the number of the trace, from 0",
        "Returns the number of the player."})
    private void promise25FirstAndLastTrace() {
        TileWarden house = Houses.players(99, 99, 99, 99);
        for (int player = 0; player < 4; player++) {
            house.open(player, 7);
        }
        for (int trace = 0; trace < 60; trace++) {
            house.hint(trace * 7 % 4, 1);
            checks.same("the last of " + (trace + 1), trace * 7 % 4, house.playerOf(trace));
        }
        for (int trace = 0; trace < 60; trace++) {
            checks.same("the trace " + trace, trace * 7 % 4, house.playerOf(trace));
        }
    }

    @Sentence(of = "Promise 25", says = "Throws `IndexOutOfBoundsException` if there is no such trace")
    private void promise25NoSuchTrace() {
        int traces = Houses.lively().traces();
        for (int trace : new int[] {Integer.MIN_VALUE, -1, traces, 59, 60, Integer.MAX_VALUE}) {
            undisturbed.refused("playerOf " + trace, INDEX, Houses::lively, house -> house.playerOf(trace));
        }
        undisturbed.refused("empty", INDEX, () -> Houses.oneGame(7), house -> house.playerOf(0));
        undisturbed.refused("full", INDEX, Houses::full, house -> house.playerOf(60));
    }

    @Sentence(of = "Promise 26", says = {"Returns the push that a trace tells.", "Returns the push.",
        "- `trace`: the number of the trace, from 0"})
    private void promise26FirstAndLastTrace() {
        int[][] tell = {{3, 0}, {2, 1}, {15, 2}};
        TileWarden house = Houses.players(9999);
        for (int[] each : tell) {
            house.open(0, each[0]);
        }
        house.open(0, 24);
        house.push(3, 1);
        for (int trace = 0; trace < 60; trace++) {
            checks.same("told", trace % 4, house.hint(trace % 4, 1));
            checks.same("the last of " + (trace + 1), trace % 4, house.pushOf(trace));
        }
        for (int trace = 0; trace < 60; trace++) {
            checks.same("the trace " + trace, trace % 4, house.pushOf(trace));
        }
    }

    @Sentence(of = "Promise 26", says = "Throws `IndexOutOfBoundsException` if there is no such trace")
    private void promise26NoSuchTrace() {
        int traces = Houses.lively().traces();
        for (int trace : new int[] {Integer.MIN_VALUE, -1, traces, 59, 60, Integer.MAX_VALUE}) {
            undisturbed.refused("pushOf " + trace, INDEX, Houses::lively, house -> house.pushOf(trace));
        }
        undisturbed.refused("empty", INDEX, () -> Houses.oneGame(7), house -> house.pushOf(0));
        undisturbed.refused("full", INDEX, Houses::full, house -> house.pushOf(60));
    }
}
