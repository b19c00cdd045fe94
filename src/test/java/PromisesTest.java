import java.util.NoSuchElementException;

/** At least one test for each promise of the document, by its number. */
public final class PromisesTest {
    private static final Class<IndexOutOfBoundsException> INDEX = IndexOutOfBoundsException.class;
    private static final Class<IllegalArgumentException> ARGUMENT = IllegalArgumentException.class;
    private static final Class<IllegalStateException> STATE = IllegalStateException.class;
    private static final Class<UnsupportedOperationException> UNSUPPORTED = UnsupportedOperationException.class;
    private static final Class<NoSuchElementException> MISSING = NoSuchElementException.class;
    private static final Class<ArithmeticException> ARITHMETIC = ArithmeticException.class;
    private static final int[] TO_THE_END = Houses.toTheEnd();
    private static final int[] NO_INDEX = {Integer.MIN_VALUE, -1, 8, Integer.MAX_VALUE};

    private final Checks checks = new Checks("PromisesTest");

    public static void main(String[] args) {
        PromisesTest test = new PromisesTest();
        test.promise1NewObject();
        test.promise2AddPlayer();
        test.promise3Open();
        test.promise4Push();
        test.promise4PushRefused();
        test.promise5At();
        test.promises6And7ScoreAndPushes();
        test.promise8CanPush();
        test.promise9IsOver();
        test.promise10Price();
        test.promise11Hint();
        test.promise11HintRefused();
        test.promise11SixtyTraces();
        test.promise12Worth();
        test.promise13Money();
        test.promise14SetRoom();
        test.promise14OldestGoes();
        test.promise14OnlySearchesUse();
        test.promise14PuttingInUses();
        test.promise15Entries();
        test.promise16IsCached();
        test.promise17Pin();
        test.promise17PinRefused();
        test.promise18Unpin();
        test.promise19Pinned();
        test.promise20Follows();
        test.promise20DoesNotFollow();
        test.promise20JustThisState();
        test.promise20SeveralTraces();
        test.promise20RowBreaks();
        test.promise21SetLimit();
        test.promise22Judge();
        test.promise22TakesPinsAway();
        test.promise23IsVoid();
        test.promises24To26Traces();
        test.promise27Refunds();
        test.promise28HitShare();
        test.promise29MeanPrice();
        test.promise30IsSound();
        test.unknownNumbersAreRefused();
        test.checks.close();
    }

    // ---- what the tests begin with

    private void board(String want, TileWarden house) {
        checks.same("board", want, Houses.board(house, 0));
    }

    // ---- players and games

    private void promise1NewObject() {
        TileWarden house = new TileWarden();
        checks.same("entries", 0, house.entries());
        checks.same("pinned", 0, house.pinned());
        checks.same("traces", 0, house.traces());
        checks.same("refunds", 0L, house.refunds());
        checks.same("isSound", true, house.isSound());
        checks.refused("no player", INDEX, () -> house.money(0));
        checks.refused("no game", INDEX, () -> house.score(0));
        checks.same("room for all", 0, house.setRoom(64));
        TileWarden other = Houses.oneGame(0);
        checks.same("houses are apart", 9999, other.money(0));
        checks.refused("houses are apart", INDEX, () -> house.money(0));
    }

    private void promise2AddPlayer() {
        TileWarden house = new TileWarden();
        checks.refused("too little", ARGUMENT, () -> house.addPlayer(-1));
        checks.refused("too much", ARGUMENT, () -> house.addPlayer(10000));
        checks.same("first", 0, house.addPlayer(0));
        checks.same("second", 1, house.addPlayer(9999));
        checks.same("third", 2, house.addPlayer(1));
        checks.same("fourth", 3, house.addPlayer(2));
        checks.refused("fifth", STATE, () -> house.addPlayer(5));
        checks.refused("the range comes first", ARGUMENT, () -> house.addPlayer(10000));
        checks.refused("the range comes first", ARGUMENT, () -> house.addPlayer(Integer.MIN_VALUE));
        checks.same("money 0", 0, house.money(0));
        checks.same("money 1", 9999, house.money(1));
    }

    private void promise3Open() {
        board("100 001 000", Houses.oneGame(0));
        board("010 000 001", Houses.oneGame(1));
        board("000 000 011", Houses.oneGame(2));
        board("000 002 010", Houses.oneGame(10));
        board("000 000 101", Houses.oneGame(Integer.MAX_VALUE));
        TileWarden house = new TileWarden();
        checks.refused("no player", INDEX, () -> house.open(0, 1));
        checks.refused("the player comes first", INDEX, () -> house.open(0, -1));
        house.addPlayer(3);
        checks.refused("a seed below 0", ARGUMENT, () -> house.open(0, -1));
        checks.refused("a seed far below 0", ARGUMENT, () -> house.open(0, Integer.MIN_VALUE));
        for (int game = 0; game < 8; game++) {
            checks.same("game", game, house.open(0, 5));
        }
        checks.refused("a ninth game", STATE, () -> house.open(0, 5));
        checks.refused("the seed comes first", ARGUMENT, () -> house.open(0, -1));
        checks.refused("the player comes first", INDEX, () -> house.open(1, -1));
    }

    private void promise4Push() {
        TileWarden right = Houses.gone(1, 2);
        board("000 000 111", right);
        checks.same("two of three merge at the right", 4, right.push(0, 1));
        board("010 000 012", right);
        TileWarden left = Houses.gone(1, 2);
        checks.same("two of three merge at the left", 4, left.push(0, 3));
        board("010 000 210", left);
        TileWarden once = Houses.gone(10, 2, 0);
        board("112 001 000", once);
        checks.same("what has merged does not merge again", 4, once.push(0, 3));
        board("220 100 002", once);
        TileWarden column = Houses.oneGame(7);
        checks.same("a merge in a column", 4, column.push(0, 0));
        checks.same("without a merge", 0, column.push(0, 1));
        checks.same("without a merge", 0, column.push(0, 2));
        checks.same("a merge in a row", 4, column.push(0, 3));
    }

    private void promise4PushRefused() {
        TileWarden house = Houses.oneGame(2);
        checks.refused("no game", INDEX, () -> house.push(1, 0));
        checks.refused("the game comes first", INDEX, () -> house.push(-1, 4));
        checks.refused("no way", ARGUMENT, () -> house.push(0, 4));
        checks.refused("no way", ARGUMENT, () -> house.push(0, -1));
        checks.refused("nothing changes by it", UNSUPPORTED, () -> house.push(0, 2));
        board("000 000 011", house);
        checks.same("nothing was pushed", 0, house.pushes(0));
        TileWarden over = Houses.gone(21, TO_THE_END);
        checks.refused("over", UNSUPPORTED, () -> over.push(0, 0));
        TileWarden voided = Houses.voidGame();
        checks.refused("void", UNSUPPORTED, () -> voided.push(1, Houses.otherWay(voided, 1, -1)));
        checks.refused("the way comes first", ARGUMENT, () -> voided.push(1, 4));
    }

    private void promise5At() {
        TileWarden house = Houses.oneGame(10);
        checks.same("a greater tile", 2, house.at(0, 1, 2));
        checks.same("a tile", 1, house.at(0, 2, 1));
        checks.same("an empty cell", 0, house.at(0, 2, 2));
        checks.refused("no game", INDEX, () -> house.at(1, 0, 0));
        checks.refused("the game comes first", INDEX, () -> house.at(1, 3, 3));
        for (int wrong : new int[] {Integer.MIN_VALUE, -1, 3, Integer.MAX_VALUE}) {
            checks.refused("no row", ARGUMENT, () -> house.at(0, wrong, 0));
            checks.refused("no column", ARGUMENT, () -> house.at(0, 0, wrong));
        }
    }

    private void promises6And7ScoreAndPushes() {
        TileWarden house = Houses.oneGame(7);
        checks.same("score at first", 0, house.score(0));
        checks.same("pushes at first", 0, house.pushes(0));
        int sum = 0;
        for (int to = 0; to < 4; to++) {
            sum += house.push(0, to);
        }
        checks.same("score", 8, house.score(0));
        checks.same("score is the sum", sum, house.score(0));
        checks.same("pushes", 4, house.pushes(0));
        house.open(0, 7);
        checks.same("score of another game", 0, house.score(1));
        checks.same("pushes of another game", 0, house.pushes(1));
    }

    private void promise8CanPush() {
        TileWarden house = Houses.oneGame(2);
        board("000 000 011", house);
        checks.same("up they go", true, house.canPush(0, 0));
        checks.same("right they merge", true, house.canPush(0, 1));
        checks.same("down nothing changes", false, house.canPush(0, 2));
        checks.same("left they merge", true, house.canPush(0, 3));
        checks.refused("no game", INDEX, () -> house.canPush(1, 0));
        checks.refused("the game comes first", INDEX, () -> house.canPush(1, 4));
        checks.refused("no way", ARGUMENT, () -> house.canPush(0, 4));
        checks.refused("no way", ARGUMENT, () -> house.canPush(0, -1));
        TileWarden voided = Houses.voidGame();
        checks.isTrue("be it void or not", Houses.otherWay(voided, 1, -1) >= 0);
    }

    private void promise9IsOver() {
        TileWarden house = Houses.gone(21, TO_THE_END);
        board("212 121 212", house);
        checks.same("over", true, house.isOver(0));
        for (int to = 0; to < 4; to++) {
            checks.same("no way is left", false, house.canPush(0, to));
        }
        house.open(0, 21);
        for (int i = 0; i < TO_THE_END.length; i++) {
            checks.same("not over yet", false, house.isOver(1));
            house.push(1, TO_THE_END[i]);
        }
        checks.same("now it is", true, house.isOver(1));
        TileWarden voided = Houses.voidGame();
        checks.same("a void game is not over by that", false, voided.isOver(1));
    }

    // ---- hints

    private void promise10Price() {
        TileWarden house = Houses.oneGame(7);
        checks.same("depth 1", 1, house.price(0, 1));
        checks.same("depth 2", 5, house.price(0, 2));
        checks.same("it changes nothing", 5, house.price(0, 2));
        checks.same("it changes nothing", 0, house.entries());
        checks.refused("it sells nothing", ARITHMETIC, house::meanPrice);
        house.hint(0, 2);
        checks.same("1 at least", 1, house.price(0, 2));
        house.push(0, 0);
        checks.same("the cache holds the line behind", 1, house.price(0, 1));
        checks.isTrue("other depths are other entries", house.price(0, 2) > 1);
        checks.refused("no game", INDEX, () -> house.price(1, 1));
        checks.refused("the game comes first", INDEX, () -> house.price(1, 0));
        checks.refused("too low", ARGUMENT, () -> house.price(0, 0));
        checks.refused("too deep", ARGUMENT, () -> house.price(0, 5));
        TileWarden over = Houses.gone(21, TO_THE_END);
        checks.refused("over", UNSUPPORTED, () -> over.price(0, 1));
        checks.refused("the depth comes first", ARGUMENT, () -> over.price(0, 5));
        TileWarden voided = Houses.voidGame();
        checks.refused("void", UNSUPPORTED, () -> voided.price(1, 1));
        TileWarden poor = new TileWarden();
        poor.addPlayer(0);
        poor.open(0, 7);
        checks.same("it asks for no money", 5, poor.price(0, 2));
    }

    private void promise11Hint() {
        TileWarden house = Houses.oneGame(7);
        checks.same("the lowest push of the best", 0, house.hint(0, 2));
        checks.same("money", 9994, house.money(0));
        checks.same("trace", 1, house.traces());
        checks.same("entries", 5, house.entries());
        checks.same("told again from the cache", 0, house.hint(0, 2));
        checks.same("1 at least", 9993, house.money(0));
        checks.same("each hint leaves a trace", 2, house.traces());
        // 112 001 000: only left merges and right merges; 1 is lower than 3.
        TileWarden row = Houses.gone(10, 2, 0);
        checks.same("gains alike, the lowest", 1, row.hint(0, 1));
        // 010 000 001: nothing merges, and each way is worth 0.
        checks.same("all worth 0", 0, Houses.oneGame(1).hint(0, 1));
        // 000 000 011: right and left merge, up and down do not, and down cannot be done.
        TileWarden merging = Houses.oneGame(2);
        checks.same("the first that merges", 1, merging.hint(0, 1));
        checks.same("the cache never changes a hint", 1, merging.hint(0, 1));
        TileWarden exact = new TileWarden();
        exact.addPlayer(5);
        exact.open(0, 7);
        checks.same("all the money", 0, exact.hint(0, 2));
        checks.same("none is left", 0, exact.money(0));
    }

    private void promise11HintRefused() {
        TileWarden poor = new TileWarden();
        poor.addPlayer(4);
        poor.open(0, 7);
        checks.refused("too little money", MISSING, () -> poor.hint(0, 2));
        checks.same("nothing is paid", 4, poor.money(0));
        checks.same("nothing is cached", 0, poor.entries());
        checks.same("no trace is left", 0, poor.traces());
        checks.refused("no hits and misses", ARITHMETIC, poor::hitShare);
        checks.same("the next costs less", 0, poor.hint(0, 1));
        checks.refused("no game", INDEX, () -> poor.hint(1, 0));
        checks.refused("too low", ARGUMENT, () -> poor.hint(0, 0));
        checks.refused("too deep", ARGUMENT, () -> poor.hint(0, 5));
        TileWarden over = Houses.gone(21, TO_THE_END);
        checks.refused("over", UNSUPPORTED, () -> over.hint(0, 1));
        checks.refused("the depth comes first", ARGUMENT, () -> over.hint(0, 0));
        TileWarden voided = Houses.voidGame();
        checks.refused("void", UNSUPPORTED, () -> voided.hint(1, 1));
        TileWarden poorAndOver = new TileWarden();
        poorAndOver.addPlayer(0);
        poorAndOver.open(0, 21);
        for (int to : TO_THE_END) {
            poorAndOver.push(0, to);
        }
        checks.refused("over comes ahead of money", UNSUPPORTED, () -> poorAndOver.hint(0, 1));
    }

    private void promise11SixtyTraces() {
        TileWarden house = new TileWarden();
        house.addPlayer(61);
        house.addPlayer(0);
        house.open(0, 7);
        house.open(1, 7);
        for (int i = 0; i < 60; i++) {
            house.hint(0, 1);
        }
        checks.same("traces", 60, house.traces());
        checks.refused("a trace more", STATE, () -> house.hint(0, 1));
        checks.same("nothing is paid", 1, house.money(0));
        checks.refused("the money comes first", MISSING, () -> house.hint(0, 2));
        checks.refused("the money comes first", MISSING, () -> house.hint(1, 1));
        checks.same("the price is still told", 5, house.price(0, 2));
        checks.same("nothing is cached", 1, house.entries());
        checks.same("the mean holds", 1.0, house.meanPrice());
    }

    private void promise12Worth() {
        TileWarden house = Houses.oneGame(7);
        checks.same("depth 0", 0, house.worth(0, 0));
        checks.same("depth 1", 4, house.worth(0, 1));
        checks.same("depth 2", 4, house.worth(0, 2));
        checks.same("without the cache", 0, house.entries());
        // 112 001 000: 4 by left, and then 220 100 002 gives 8 by left or right.
        TileWarden row = Houses.gone(10, 2, 0);
        checks.same("depth 1", 4, row.worth(0, 1));
        checks.isTrue("depth 2", row.worth(0, 2) >= 12);
        checks.same("over", 0, Houses.gone(21, TO_THE_END).worth(0, 4));
        TileWarden voided = Houses.voidGame();
        checks.isTrue("void", voided.worth(1, 4) >= 0);
        checks.refused("no game", INDEX, () -> house.worth(1, 9));
        checks.refused("too low", ARGUMENT, () -> house.worth(0, -1));
        checks.refused("too deep", ARGUMENT, () -> house.worth(0, 5));
    }

    private void promise13Money() {
        TileWarden house = Houses.twins(3);
        house.hint(1, 3);
        checks.same("who buys pays", 9999 - (int) house.meanPrice(), house.money(1));
        checks.same("others do not", 9999, house.money(0));
        checks.refused("no player", INDEX, () -> house.money(2));
        checks.refused("no player", INDEX, () -> house.money(-1));
    }

    // ---- the cache

    private void promise14SetRoom() {
        TileWarden house = Houses.oneGame(11);
        house.hint(0, 3);
        checks.same("13 entries", 13, house.entries());
        checks.same("too many go", 4, house.setRoom(4));
        checks.same("the last one stays", true, house.isCached(0, 3));
        checks.same("more room brings none", 4, house.setRoom(64));
        checks.same("one", 1, house.setRoom(1));
        checks.same("the last one stays", true, house.isCached(0, 3));
        checks.refused("too small", ARGUMENT, () -> house.setRoom(0));
        checks.refused("too large", ARGUMENT, () -> house.setRoom(65));
        house.hint(0, 2);
        checks.same("no more than one", 1, house.entries());
        house.setRoom(2);
        house.pin(0, 2);
        house.hint(0, 1);
        house.pin(0, 1);
        checks.refused("more are pinned", UNSUPPORTED, () -> house.setRoom(1));
        checks.refused("the range comes first", ARGUMENT, () -> house.setRoom(0));
        checks.same("as many are pinned", 2, house.setRoom(2));
        TileWarden deep = Houses.oneGame(5);
        deep.hint(0, 4);
        checks.same("24 at first", 24, deep.entries());
        TileWarden wide = Houses.oneGame(5);
        wide.setRoom(64);
        int price = wide.price(0, 4);
        wide.hint(0, 4);
        checks.same("as many as there is room for", Math.min(64, price), wide.entries());
    }

    /** There is room for two of A, B and C, the entries of three states behind one another. */
    private void promise14OldestGoes() {
        TileWarden house = Houses.oneGame(7);
        house.open(0, 7);
        house.open(0, 7);
        house.setRoom(2);
        house.hint(0, 1);
        house.push(0, 0);
        house.push(2, 0);
        house.hint(0, 1);
        checks.same("A is there", true, house.isCached(1, 1));
        checks.same("B is there", true, house.isCached(2, 1));
        house.hint(1, 1);
        house.push(0, 1);
        house.hint(0, 1);
        checks.same("A was used by a hint and stays", true, house.isCached(1, 1));
        checks.same("B is the oldest and goes", false, house.isCached(2, 1));
        checks.same("C comes", true, house.isCached(0, 1));
        checks.same("two", 2, house.entries());
    }

    private void promise14OnlySearchesUse() {
        TileWarden house = Houses.oneGame(7);
        house.open(0, 7);
        house.open(0, 7);
        house.setRoom(2);
        house.push(0, house.hint(0, 1));
        house.push(2, 0);
        house.hint(0, 1);
        house.price(1, 1);
        house.isCached(1, 1);
        house.pin(1, 1);
        house.unpin(1);
        house.worth(1, 4);
        house.isSound();
        house.push(0, 1);
        house.hint(0, 1);
        checks.same("A is still the oldest and goes", false, house.isCached(1, 1));
        checks.same("B stays", true, house.isCached(2, 1));
    }

    private void promise14PuttingInUses() {
        TileWarden house = Houses.oneGame(7);
        house.open(0, 7);
        house.setRoom(2);
        house.push(0, 0);
        house.hint(0, 1);
        house.hint(1, 1);
        house.hint(0, 1);
        house.hint(0, 1);
        house.push(0, 1);
        house.hint(0, 1);
        checks.same("it was put in ahead of the last use of the other", false, house.isCached(1, 1));
        house.push(1, 0);
        checks.same("the other stays", true, house.isCached(1, 1));
        house.push(1, 1);
        house.push(1, 2);
        house.hint(1, 1);
        checks.same("what was put in last stays", true, house.isCached(0, 1));
    }

    private void promise15Entries() {
        TileWarden house = Houses.oneGame(7);
        house.hint(0, 1);
        checks.same("one", 1, house.entries());
        house.hint(0, 1);
        checks.same("once", 1, house.entries());
        house.hint(0, 2);
        checks.same("five more", 6, house.entries());
        house.open(0, 7);
        house.hint(1, 2);
        checks.same("the cache is shared", 6, house.entries());
    }

    private void promise16IsCached() {
        TileWarden house = Houses.oneGame(7);
        house.open(0, 8);
        house.open(0, 7);
        house.hint(0, 2);
        checks.same("its depth", true, house.isCached(0, 2));
        checks.same("another depth", false, house.isCached(0, 1));
        checks.same("another state", false, house.isCached(1, 2));
        checks.same("the same state", true, house.isCached(2, 2));
        house.push(0, 0);
        checks.same("the state has gone on", false, house.isCached(0, 2));
        checks.same("states behind are there", true, house.isCached(0, 1));
        checks.refused("no game", INDEX, () -> house.isCached(3, 0));
        checks.refused("too low", ARGUMENT, () -> house.isCached(0, 0));
        checks.refused("too deep", ARGUMENT, () -> house.isCached(0, 5));
    }

    private void promise17Pin() {
        TileWarden house = Houses.oneGame(11);
        house.open(0, 11);
        house.hint(0, 2);
        house.hint(0, 1);
        checks.same("first pin", 1, house.pin(0, 2));
        checks.same("one of an entry at most", 1, house.pin(0, 2));
        checks.same("second pin", 2, house.pin(0, 1));
        checks.same("another game", 1, house.pin(1, 2));
        checks.same("two entries", 2, house.pinned());
        house.setRoom(2);
        house.push(0, 0);
        house.hint(0, 3);
        checks.same("all are pinned, none is put in", 2, house.entries());
        checks.same("none is put in", false, house.isCached(0, 3));
        checks.same("pins stay", true, house.isCached(1, 2));
        house.setRoom(3);
        house.hint(0, 1);
        checks.same("pins stay when the game goes on", 3, house.pin(0, 1));
    }

    private void promise17PinRefused() {
        TileWarden house = Houses.oneGame(11);
        checks.refused("no game", INDEX, () -> house.pin(1, 0));
        checks.refused("too low", ARGUMENT, () -> house.pin(0, 0));
        checks.refused("too deep", ARGUMENT, () -> house.pin(0, 5));
        checks.refused("no entry", MISSING, () -> house.pin(0, 4));
        TileWarden voided = Houses.voidGame();
        checks.refused("void comes ahead of no entry", UNSUPPORTED, () -> voided.pin(1, 4));
        checks.refused("the depth comes first", ARGUMENT, () -> voided.pin(1, 0));
        TileWarden over = Houses.oneGame(21);
        for (int i = 0; i < TO_THE_END.length - 1; i++) {
            over.push(0, TO_THE_END[i]);
        }
        over.hint(0, 2);
        over.push(0, TO_THE_END[TO_THE_END.length - 1]);
        checks.same("a state that is over has an entry too", true, over.isCached(0, 1));
        checks.same("and can be pinned", 1, over.pin(0, 1));
    }

    private void promise18Unpin() {
        TileWarden house = Houses.twins(11);
        house.hint(0, 2);
        house.hint(0, 1);
        house.pin(0, 2);
        house.pin(0, 1);
        house.pin(1, 1);
        checks.same("had two", 2, house.unpin(0));
        checks.same("has none", 0, house.unpin(0));
        checks.same("the other has its own still", 1, house.pinned());
        checks.same("had one", 1, house.unpin(1));
        checks.same("none is pinned", 0, house.pinned());
        checks.same("they can go now", 1, house.setRoom(1));
        checks.same("nothing else goes", true, house.isCached(0, 1));
        checks.refused("no game", INDEX, () -> house.unpin(2));
        checks.same("a void game", 0, Houses.voidGame().unpin(1));
    }

    private void promise19Pinned() {
        TileWarden house = Houses.twins(11);
        house.hint(0, 1);
        house.pin(0, 1);
        house.pin(1, 1);
        checks.same("one entry, two pins", 1, house.pinned());
        house.unpin(0);
        checks.same("a pin is left", 1, house.pinned());
        house.unpin(1);
        checks.same("none is left", 0, house.pinned());
    }

    // ---- the desk

    private void promise20Follows() {
        TileWarden house = Houses.twins(3);
        checks.same("at first", 0, house.follows(1));
        for (int steps = 1; steps < 6; steps++) {
            Houses.chase(house, 1);
            checks.same("row", steps, house.follows(1));
        }
        checks.same("one does not follow oneself", 0, house.follows(0));
        checks.refused("no game", INDEX, () -> house.follows(2));
        house.setLimit(1);
        house.judge(1);
        checks.same("a void game too", 5, house.follows(1));
    }

    private void promise20DoesNotFollow() {
        TileWarden other = Houses.twins(3);
        other.push(1, Houses.otherWay(other, 1, other.hint(0, 1)));
        checks.same("another push than was told", 0, other.follows(1));
        TileWarden own = Houses.twins(3);
        int told = own.hint(0, 1);
        own.hint(1, 4);
        own.push(1, told);
        checks.same("a hint of one's own", 0, own.follows(1));
        TileWarden sibling = Houses.twins(3);
        sibling.open(1, 3);
        sibling.hint(2, 1);
        sibling.push(1, sibling.hint(0, 1));
        checks.same("a hint in another game of one's own", 0, sibling.follows(1));
        TileWarden later = Houses.twins(3);
        later.push(1, 0);
        checks.same("the same push would be told", 0, later.hint(0, 1));
        checks.same("it was told later", 0, later.follows(1));
        TileWarden ownLater = Houses.twins(3);
        ownLater.open(1, 3);
        ownLater.push(1, ownLater.hint(0, 1));
        ownLater.hint(2, 1);
        checks.same("its own was told later", 1, ownLater.follows(1));
        TileWarden same = Houses.oneGame(3);
        same.open(0, 3);
        same.push(1, same.hint(0, 1));
        checks.same("the same player", 0, same.follows(1));
    }

    private void promise20JustThisState() {
        int tried = 0;
        for (int seed = 0; seed < 50; seed++) {
            TileWarden house = Houses.twins(seed);
            house.push(0, Houses.otherWay(house, 0, -1));
            house.push(1, Houses.otherWay(house, 1, Houses.otherWay(house, 1, -1)));
            int told = house.hint(0, 1);
            if (house.canPush(1, told) && !Houses.board(house, 0).equals(Houses.board(house, 1))) {
                house.push(1, told);
                tried++;
                checks.same("the same z with another board", 0, house.follows(1));
            }
        }
        checks.isTrue("the other can push it too", tried > 0);
        TileWarden alike = Houses.oneGame(7);
        alike.addPlayer(9999);
        String board = Houses.board(alike, 0);
        int seed = 8;
        while (seed < 10000 && !Houses.board(Houses.oneGame(seed), 0).equals(board)) {
            seed++;
        }
        alike.open(1, seed);
        checks.same("the boards are alike", board, Houses.board(alike, 1));
        alike.hint(0, 2);
        checks.same("the same board with another z is another entry", false, alike.isCached(1, 2));
        alike.push(1, alike.pushOf(0));
        checks.same("the same board with another z", 0, alike.follows(1));
    }

    /** A seed at whose start hints of the depths 1 and 3 tell different pushes. */
    private static int seedOfTwoHints() {
        int seed = 0;
        TileWarden house = Houses.oneGame(seed);
        while (seed < 1000 && house.hint(0, 1) == house.hint(0, 3)) {
            seed++;
            house = Houses.oneGame(seed);
        }
        return seed;
    }

    private void promise20SeveralTraces() {
        int seed = seedOfTwoHints();
        for (int depth = 1; depth < 4; depth += 2) {
            TileWarden house = Houses.twins(seed);
            int shallow = house.hint(0, 1);
            int deep = house.hint(0, 3);
            checks.isTrue("two are told", shallow != deep);
            house.push(1, depth == 1 ? shallow : deep);
            checks.same("any of the traces can be followed", 1, house.follows(1));
            TileWarden own = Houses.twins(seed);
            int told = own.hint(0, depth);
            own.hint(1, 4 - depth);
            own.push(1, told);
            checks.same("one's own trace counts, whatever it told", 0, own.follows(1));
        }
    }

    private void promise20RowBreaks() {
        TileWarden house = Houses.twins(3);
        Houses.chase(house, 2);
        int way = Houses.otherWay(house, 0, -1);
        house.push(0, way);
        house.push(1, way);
        checks.same("the longest stays", 2, house.follows(1));
        Houses.chase(house, 1);
        checks.same("a row begins again", 2, house.follows(1));
        Houses.chase(house, 2);
        checks.same("it is the longest now", 3, house.follows(1));
        way = Houses.otherWay(house, 0, -1);
        house.push(0, way);
        house.push(1, way);
        checks.same("the desk judges by the longest", 0, house.judge(1));
    }

    private void promise21SetLimit() {
        TileWarden house = Houses.twins(3);
        checks.same("3 at first", 3, house.setLimit(9));
        checks.same("the one before", 9, house.setLimit(1));
        checks.refused("too low", ARGUMENT, () -> house.setLimit(0));
        checks.refused("too high", ARGUMENT, () -> house.setLimit(10));
        checks.same("unchanged", 1, house.setLimit(4));
        Houses.chase(house, 4);
        house.setLimit(5);
        checks.same("below the limit", -1, house.judge(1));
        house.setLimit(4);
        checks.same("at the limit", 0, house.judge(1));
    }

    private void promise22Judge() {
        TileWarden house = Houses.twins(3);
        Houses.chase(house, 2);
        checks.same("not yet", -1, house.judge(1));
        checks.same("not void by this", false, house.isVoid(1));
        Houses.chase(house, 1);
        int price = house.price(1, 3);
        house.hint(1, 3);
        house.open(1, 50);
        int kept = house.price(2, 2);
        house.hint(2, 2);
        checks.same("paid back", price, house.judge(1));
        checks.same("but not for other games", 9999 - kept, house.money(1));
        checks.refused("not again", UNSUPPORTED, () -> house.judge(1));
        checks.same("who was followed is not void", -1, house.judge(0));
        checks.refused("no game", INDEX, () -> house.judge(3));
        house.hint(2, 2);
        checks.same("the player plays on", 9999 - kept - 1, house.money(1));
        checks.same("traces of void games stay", true, house.traces() > 3);
        house.addPlayer(100);
        house.open(2, 3);
        for (int i = 0; i < 3; i++) {
            house.push(3, house.pushOf(i));
        }
        checks.same("a third one follows too", 3, house.follows(3));
    }

    private void promise22TakesPinsAway() {
        TileWarden house = Houses.twins(3);
        Houses.chase(house, 3);
        house.hint(1, 2);
        house.pin(1, 2);
        house.pin(0, 2);
        house.hint(1, 1);
        house.pin(1, 1);
        checks.same("two are pinned", 2, house.pinned());
        house.judge(1);
        checks.same("only its own pins are gone", 1, house.pinned());
        checks.same("it has none", 0, house.unpin(1));
        checks.same("the entries stay", true, house.isCached(1, 1));
    }

    private void promise23IsVoid() {
        TileWarden house = Houses.voidGame();
        checks.same("void", true, house.isVoid(1));
        checks.same("not void", false, house.isVoid(0));
        checks.refused("no game", INDEX, () -> house.isVoid(2));
        TileWarden unjudged = Houses.twins(3);
        Houses.chase(unjudged, 5);
        checks.same("only the desk voids", false, unjudged.isVoid(1));
    }

    private void promises24To26Traces() {
        TileWarden house = Houses.twins(7);
        house.hint(1, 2);
        house.hint(0, 1);
        house.push(0, 0);
        house.push(0, 1);
        int told = house.hint(0, 3);
        checks.same("traces", 3, house.traces());
        checks.same("player of 0", 1, house.playerOf(0));
        checks.same("player of 1", 0, house.playerOf(1));
        checks.same("push of 0", 0, house.pushOf(0));
        checks.same("push of 2", told, house.pushOf(2));
        TileWarden right = Houses.oneGame(2);
        right.hint(0, 1);
        checks.same("push of the hint", 1, right.pushOf(0));
        for (int wrong : new int[] {Integer.MIN_VALUE, -1, 3, 60, Integer.MAX_VALUE}) {
            checks.refused("no trace", INDEX, () -> house.playerOf(wrong));
            checks.refused("no trace", INDEX, () -> house.pushOf(wrong));
        }
    }

    // ---- figures

    private void promise27Refunds() {
        TileWarden house = Houses.twins(3);
        checks.same("none at first", 0L, house.refunds());
        house.addPlayer(9999);
        house.open(2, 3);
        for (int i = 0; i < 3; i++) {
            int told = house.hint(0, 1);
            for (int game = 0; game < 3; game++) {
                house.push(game, told);
            }
        }
        house.hint(1, 3);
        house.hint(2, 4);
        long first = house.judge(1);
        checks.same("the first", first, house.refunds());
        long second = house.judge(2);
        checks.isTrue("both paid", first > 0 && second > 0);
        checks.same("both", first + second, house.refunds());
        checks.same("money is as at first", 9999 + 9999, house.money(1) + house.money(2));
    }

    private void promise28HitShare() {
        TileWarden house = Houses.oneGame(7);
        checks.refused("none", ARITHMETIC, house::hitShare);
        house.price(0, 4);
        checks.refused("asking the price makes none", ARITHMETIC, house::hitShare);
        house.hint(0, 2);
        checks.same("five misses", 0f, house.hitShare());
        house.hint(0, 2);
        checks.same("one hit of six", 1f / 6f, house.hitShare());
        house.price(0, 2);
        checks.same("asking the price makes none", 1f / 6f, house.hitShare());
    }

    private void promise29MeanPrice() {
        TileWarden house = Houses.oneGame(7);
        checks.refused("none", ARITHMETIC, house::meanPrice);
        house.hint(0, 2);
        checks.same("one", 5.0, house.meanPrice());
        house.hint(0, 2);
        house.hint(0, 2);
        checks.same("three", 7.0 / 3.0, house.meanPrice());
        TileWarden voided = Houses.voidGame();
        checks.same("paid back or not", (9999 + 9999 - voided.money(0) - voided.money(1) + voided.refunds())
                / (double) voided.traces(), voided.meanPrice());
    }

    private void promise30IsSound() {
        TileWarden house = Houses.voidGame();
        checks.same("behind a void", true, house.isSound());
        house.setRoom(64);
        house.hint(0, 4);
        house.pin(0, 4);
        checks.same("with a full cache", true, house.isSound());
        house.setRoom(1);
        checks.same("with a small cache", true, house.isSound());
        TileWarden over = Houses.oneGame(21);
        for (int to : TO_THE_END) {
            over.hint(0, 3);
            over.push(0, to);
            checks.same("on the way to the end", true, over.isSound());
        }
    }

    private void unknownNumbersAreRefused() {
        TileWarden house = Houses.twins(3);
        house.hint(0, 1);
        for (int wrong : NO_INDEX) {
            checks.refused("open", INDEX, () -> house.open(wrong, 1));
            checks.refused("push", INDEX, () -> house.push(wrong, 0));
            checks.refused("at", INDEX, () -> house.at(wrong, 0, 0));
            checks.refused("score", INDEX, () -> house.score(wrong));
            checks.refused("pushes", INDEX, () -> house.pushes(wrong));
            checks.refused("canPush", INDEX, () -> house.canPush(wrong, 0));
            checks.refused("isOver", INDEX, () -> house.isOver(wrong));
            checks.refused("price", INDEX, () -> house.price(wrong, 1));
            checks.refused("hint", INDEX, () -> house.hint(wrong, 1));
            checks.refused("worth", INDEX, () -> house.worth(wrong, 1));
            checks.refused("money", INDEX, () -> house.money(wrong));
            checks.refused("isCached", INDEX, () -> house.isCached(wrong, 1));
            checks.refused("pin", INDEX, () -> house.pin(wrong, 1));
            checks.refused("unpin", INDEX, () -> house.unpin(wrong));
            checks.refused("follows", INDEX, () -> house.follows(wrong));
            checks.refused("judge", INDEX, () -> house.judge(wrong));
            checks.refused("isVoid", INDEX, () -> house.isVoid(wrong));
        }
    }
}
