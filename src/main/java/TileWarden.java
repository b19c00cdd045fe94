import java.util.ArrayList;
import java.util.NoSuchElementException;

/**
 * A house of tile games with a shared cache of boards.
 *
 * <p>A state of a game is passed as two numbers, its board (see {@link Boards}) and its z, so that
 * a search makes no objects.
 */
public final class TileWarden {
    private static final int MOST_MONEY = 9999;
    private static final int MOST_PLAYERS = 4;
    private static final int MOST_GAMES = 8;
    private static final int MOST_TRACES = 60;
    private static final int MOST_ROOM = 64;
    private static final int FIRST_ROOM = 24;
    private static final int DEEPEST = 4;
    private static final int HIGHEST_LIMIT = 9;
    private static final int FIRST_LIMIT = 3;
    private static final int NO_PUSH = -1;
    private static final int NOT_VOID = -1;

    private final ArrayList<Player> players = new ArrayList<Player>();
    private final ArrayList<Game> games = new ArrayList<Game>();
    private final ArrayList<Trace> traces = new ArrayList<Trace>();
    private final Cache cache = new Cache(MOST_ROOM);
    /** Works on a copy of the cache: what it did there is kept only if the hint is sold. */
    private final Search trial = new Search(new Cache(MOST_ROOM));
    /** Works without the cache: its own one has no slot to put anything in. */
    private final Search plain = new Search(new Cache(0));
    private int limit = FIRST_LIMIT;
    private long refunds = 0;
    private long soldHints = 0;
    private long soldPrices = 0;
    private long soldHits = 0;
    private long soldMisses = 0;

    public TileWarden() {
    }

    // ---- players and games

    public int addPlayer(int money) throws IllegalArgumentException, IllegalStateException {
        if (money < 0 || money > MOST_MONEY) {
            throw new IllegalArgumentException("the money is out of range");
        }
        if (players.size() >= MOST_PLAYERS) {
            throw new IllegalStateException("there is no place for another player");
        }
        players.add(new Player(players.size(), money));
        return players.size() - 1;
    }

    public int open(int player, int seed)
            throws IndexOutOfBoundsException, IllegalArgumentException, IllegalStateException {
        Player owner = findPlayer(player);
        if (seed < 0) {
            throw new IllegalArgumentException("the seed is less than 0");
        }
        if (games.size() >= MOST_GAMES) {
            throw new IllegalStateException("there is no place for another game");
        }
        games.add(new Game(owner, games.size(), seed));
        return games.size() - 1;
    }

    public int push(int game, int to)
            throws IndexOutOfBoundsException, IllegalArgumentException, UnsupportedOperationException {
        Game played = findGame(game);
        checkWay(to);
        if (played.voided || !Boards.canGo(played.board, to)) {
            throw new UnsupportedOperationException("the game is void or the push changes nothing");
        }
        played.noteFollowing(isFollowing(played, to));
        return played.go(to);
    }

    public int at(int game, int row, int column)
            throws IndexOutOfBoundsException, IllegalArgumentException {
        Game asked = findGame(game);
        if (row < 0 || row >= Boards.SIDE || column < 0 || column >= Boards.SIDE) {
            throw new IllegalArgumentException("there is no such cell");
        }
        return Boards.tileAt(asked.board, row * Boards.SIDE + column);
    }

    public int score(int game) throws IndexOutOfBoundsException {
        return findGame(game).score;
    }

    public int pushes(int game) throws IndexOutOfBoundsException {
        return findGame(game).pushCount;
    }

    public boolean canPush(int game, int to)
            throws IndexOutOfBoundsException, IllegalArgumentException {
        Game asked = findGame(game);
        checkWay(to);
        return Boards.canGo(asked.board, to);
    }

    public boolean isOver(int game) throws IndexOutOfBoundsException {
        return Boards.isStuck(findGame(game).board);
    }

    // ---- hints

    public int price(int game, int depth)
            throws IndexOutOfBoundsException, IllegalArgumentException, UnsupportedOperationException {
        Game asked = findGame(game);
        checkDepth(depth, 1);
        checkHintable(asked);
        tryHint(asked, depth);
        return trial.cost();
    }

    public int hint(int game, int depth)
            throws IndexOutOfBoundsException, IllegalArgumentException, UnsupportedOperationException,
            NoSuchElementException, IllegalStateException {
        Game helped = findGame(game);
        checkDepth(depth, 1);
        checkHintable(helped);
        tryHint(helped, depth);
        if (helped.owner.money < trial.cost()) {
            throw new NoSuchElementException("the player has too little money");
        }
        if (traces.size() >= MOST_TRACES) {
            throw new IllegalStateException("there is no place for another trace");
        }
        sellTriedHint(helped);
        return trial.push;
    }

    public int worth(int game, int depth) throws IndexOutOfBoundsException, IllegalArgumentException {
        Game asked = findGame(game);
        checkDepth(depth, 0);
        return look(plain, asked.board, asked.z, depth);
    }

    public int money(int player) throws IndexOutOfBoundsException {
        return findPlayer(player).money;
    }

    // ---- the cache

    public int setRoom(int room) throws IllegalArgumentException, UnsupportedOperationException {
        if (room < 1 || room > MOST_ROOM) {
            throw new IllegalArgumentException("the room is out of range");
        }
        if (cache.countPinned() > room) {
            throw new UnsupportedOperationException("more entries are pinned");
        }
        cache.fitInto(room);
        return cache.count;
    }

    public int entries() {
        return cache.count;
    }

    public boolean isCached(int game, int depth)
            throws IndexOutOfBoundsException, IllegalArgumentException {
        Game asked = findGame(game);
        checkDepth(depth, 1);
        return cache.find(asked.board, asked.z, depth) != null;
    }

    public int pin(int game, int depth)
            throws IndexOutOfBoundsException, IllegalArgumentException, UnsupportedOperationException,
            NoSuchElementException {
        Game pinning = findGame(game);
        checkDepth(depth, 1);
        if (pinning.voided) {
            throw new UnsupportedOperationException("the game is void");
        }
        Entry entry = cache.find(pinning.board, pinning.z, depth);
        if (entry == null) {
            throw new NoSuchElementException("there is no such entry");
        }
        entry.pins |= pinning.pinBit;
        return cache.countPins(pinning.pinBit);
    }

    public int unpin(int game) throws IndexOutOfBoundsException {
        Game unpinning = findGame(game);
        int had = cache.countPins(unpinning.pinBit);
        cache.takePins(unpinning.pinBit);
        return had;
    }

    public int pinned() {
        return cache.countPinned();
    }

    // ---- the desk

    public int follows(int game) throws IndexOutOfBoundsException {
        return findGame(game).longestRow;
    }

    public int setLimit(int limit) throws IllegalArgumentException {
        if (limit < 1 || limit > HIGHEST_LIMIT) {
            throw new IllegalArgumentException("the limit is out of range");
        }
        int before = this.limit;
        this.limit = limit;
        return before;
    }

    public int judge(int game) throws IndexOutOfBoundsException, UnsupportedOperationException {
        Game judged = findGame(game);
        if (judged.voided) {
            throw new UnsupportedOperationException("the game is void already");
        }
        if (judged.longestRow < limit) {
            return NOT_VOID;
        }
        judged.voided = true;
        cache.takePins(judged.pinBit);
        judged.owner.money += judged.paid;
        refunds += judged.paid;
        return judged.paid;
    }

    public boolean isVoid(int game) throws IndexOutOfBoundsException {
        return findGame(game).voided;
    }

    public int traces() {
        return traces.size();
    }

    public int playerOf(int trace) throws IndexOutOfBoundsException {
        return findTrace(trace).player;
    }

    public int pushOf(int trace) throws IndexOutOfBoundsException {
        return findTrace(trace).push;
    }

    // ---- figures

    public long refunds() {
        return refunds;
    }

    public float hitShare() throws ArithmeticException {
        long all = soldHits + soldMisses;
        if (all == 0) {
            throw new ArithmeticException("no hint that was sold made a hit or a miss");
        }
        return (float) soldHits / (float) all;
    }

    public double meanPrice() throws ArithmeticException {
        if (soldHints == 0) {
            throw new ArithmeticException("no hint was sold");
        }
        return (double) soldPrices / (double) soldHints;
    }

    public boolean isSound() {
        return areEntriesRight() && areRefundsRight() && arePursesRight();
    }

    // ---- what the calls look up and refuse

    private Player findPlayer(int player) {
        if (player < 0 || player >= players.size()) {
            throw new IndexOutOfBoundsException("there is no such player");
        }
        return players.get(player);
    }

    private Game findGame(int game) {
        if (game < 0 || game >= games.size()) {
            throw new IndexOutOfBoundsException("there is no such game");
        }
        return games.get(game);
    }

    private Trace findTrace(int trace) {
        if (trace < 0 || trace >= traces.size()) {
            throw new IndexOutOfBoundsException("there is no such trace");
        }
        return traces.get(trace);
    }

    private static void checkWay(int to) {
        if (to < 0 || to >= Boards.WAYS) {
            throw new IllegalArgumentException("there is no such way");
        }
    }

    private static void checkDepth(int depth, int least) {
        if (depth < least || depth > DEEPEST) {
            throw new IllegalArgumentException("the depth is out of range");
        }
    }

    private static void checkHintable(Game game) {
        if (game.voided || Boards.isStuck(game.board)) {
            throw new UnsupportedOperationException("the game is void or over");
        }
    }

    // ---- hints and what follows them

    private void tryHint(Game game, int depth) {
        trial.cache.become(cache);
        trial.start();
        look(trial, game.board, game.z, depth);
    }

    private void sellTriedHint(Game game) {
        int price = trial.cost();
        cache.become(trial.cache);
        game.owner.money -= price;
        game.paid += price;
        traces.add(new Trace(game, trial.push));
        soldHints++;
        soldPrices += price;
        soldHits += trial.hits;
        soldMisses += trial.misses;
    }

    /**
     * Finds the worth of a state; its hint is then in search.push, as the state that was asked for
     * is done with last.
     */
    private static int look(Search search, long board, int z, int depth) {
        if (depth <= 0) {
            return 0;
        }
        Entry known = search.cache.find(board, z, depth);
        if (known != null) {
            search.cache.use(known);
            search.hits++;
            search.push = known.push;
            return known.worth;
        }
        search.misses++;
        int best = 0;
        int bestPush = NO_PUSH;
        for (int to = 0; to < Boards.WAYS; to++) {
            long after = Boards.pushed(board, to);
            if (after != board) {
                // At the depth 0 the worth is 0, whatever is drawn.
                int behind = depth == 1
                        ? 0
                        : look(search, Boards.drawn(after, z), Boards.drawnZ(z), depth - 1);
                int found = Boards.gainOf(board, to) + behind;
                if (bestPush == NO_PUSH || found > best) {
                    best = found;
                    bestPush = to;
                }
            }
        }
        search.cache.put(board, z, depth, best, bestPush);
        search.push = bestPush;
        return best;
    }

    private boolean isFollowing(Game game, int to) {
        boolean told = false;
        for (int i = 0; i < traces.size(); i++) {
            Trace trace = traces.get(i);
            if (trace.board == game.board && trace.z == game.z) {
                if (trace.player == game.owner.number) {
                    return false;
                }
                told = told || trace.push == to;
            }
        }
        return told;
    }

    // ---- what isSound asks

    private boolean areEntriesRight() {
        for (Entry entry : cache.slots) {
            // A pin on a free slot would be a pinned entry that is not there.
            boolean right = entry.isFree() ? entry.pins == 0 : isFoundPlainly(entry);
            if (!right) {
                return false;
            }
        }
        return true;
    }

    private boolean isFoundPlainly(Entry entry) {
        int worth = look(plain, entry.board, entry.z, entry.depth);
        return entry.worth == worth && entry.push == plain.push;
    }

    private boolean areRefundsRight() {
        long due = 0;
        for (int i = 0; i < games.size(); i++) {
            Game game = games.get(i);
            due += game.voided ? game.paid : 0;
        }
        return refunds == due;
    }

    private boolean arePursesRight() {
        for (int i = 0; i < players.size(); i++) {
            Player player = players.get(i);
            if (player.money != player.moneyAtFirst - paidForGood(player)) {
                return false;
            }
        }
        return true;
    }

    private int paidForGood(Player player) {
        int sum = 0;
        for (int i = 0; i < games.size(); i++) {
            Game game = games.get(i);
            if (game.owner == player && !game.voided) {
                sum += game.paid;
            }
        }
        return sum;
    }

    // ---- the classes inside

    /**
     * What can be done with boards and draws. A board is one number: five bits a cell, row by row
     * from the left, the first cell lowest. A line of a board, seen from the side to which a push
     * goes, is one number likewise.
     */
    private static final class Boards {
        static final int SIDE = 3;
        static final int WAYS = 4;
        static final long EMPTY = 0L;
        private static final int UP = 0;
        private static final int RIGHT = 1;
        private static final int DOWN = 2;
        private static final int CELLS = SIDE * SIDE;
        private static final int BITS = 5;
        private static final int MASK = (1 << BITS) - 1;
        private static final int NO_PLACE = -1;
        private static final int Z_MASK = 2147483647;
        private static final int Z_SHIFT = 16;

        static int tileAt(long board, int cell) {
            return (int) (board >>> (cell * BITS)) & MASK;
        }

        static boolean canGo(long board, int to) {
            return pushed(board, to) != board;
        }

        static boolean isStuck(long board) {
            for (int to = 0; to < WAYS; to++) {
                if (canGo(board, to)) {
                    return false;
                }
            }
            return true;
        }

        /** The board behind a push, still without the draw. */
        static long pushed(long board, int to) {
            long after = EMPTY;
            for (int i = 0; i < SIDE; i++) {
                int line = merged(gathered(board, to, i));
                for (int place = 0; place < SIDE; place++) {
                    long tile = tileIn(line, place);
                    after |= tile << (cellOf(to, i, place) * BITS);
                }
            }
            return after;
        }

        static int gainOf(long board, int to) {
            int gain = 0;
            for (int i = 0; i < SIDE; i++) {
                int line = gathered(board, to, i);
                int place = mergingPlace(line);
                if (place != NO_PLACE) {
                    gain += 1 << (tileIn(line, place) + 1);
                }
            }
            return gain;
        }

        /** The board with the tile that is drawn when z stands ahead of the draw. */
        static long drawn(long board, int z) {
            int empty = countEmpty(board);
            if (empty == 0) {
                return board;
            }
            int firstZ = nextZ(z);
            int toSkip = (firstZ >> Z_SHIFT) % empty;
            long tile = (nextZ(firstZ) >> Z_SHIFT) % 10 == 0 ? 2 : 1;
            for (int cell = 0; cell < CELLS; cell++) {
                if (tileAt(board, cell) == 0) {
                    if (toSkip == 0) {
                        return board | tile << (cell * BITS);
                    }
                    toSkip--;
                }
            }
            return board;
        }

        /** The z behind a draw when z stands ahead of it. */
        static int drawnZ(int z) {
            return nextZ(nextZ(z));
        }

        private static int nextZ(int z) {
            // The wrap-around does no harm: the modulus divides the 2 to the power of 32 that is lost.
            return (z * 1103515245 + 12345) & Z_MASK;
        }

        private static int countEmpty(long board) {
            int empty = 0;
            for (int cell = 0; cell < CELLS; cell++) {
                if (tileAt(board, cell) == 0) {
                    empty++;
                }
            }
            return empty;
        }

        /** The cell at a place of a line, both counted from 0, the places from where the push goes. */
        private static int cellOf(int to, int line, int place) {
            switch (to) {
                case UP:
                    return place * SIDE + line;
                case RIGHT:
                    return line * SIDE + SIDE - 1 - place;
                case DOWN:
                    return (SIDE - 1 - place) * SIDE + line;
                default:
                    return line * SIDE + place;
            }
        }

        private static int tileIn(int line, int place) {
            return line >> (place * BITS) & MASK;
        }

        /** A line of a board with its tiles gone as far as they can, not merged yet. */
        private static int gathered(long board, int to, int number) {
            int line = 0;
            int filled = 0;
            for (int place = 0; place < SIDE; place++) {
                int tile = tileAt(board, cellOf(to, number, place));
                if (tile != 0) {
                    line |= tile << (filled * BITS);
                    filled++;
                }
            }
            return line;
        }

        /** Where a gathered line merges with its next place; three cells merge once at most. */
        private static int mergingPlace(int line) {
            int near = line & MASK;
            int middle = line >> BITS & MASK;
            int far = line >> (BITS + BITS) & MASK;
            if (near != 0 && near == middle) {
                return 0;
            }
            return middle != 0 && middle == far ? 1 : NO_PLACE;
        }

        private static int merged(int line) {
            int place = mergingPlace(line);
            if (place == NO_PLACE) {
                return line;
            }
            int shift = place * BITS;
            int nearer = line & ((1 << shift) - 1);
            int farther = line >> (shift + BITS + BITS);
            return nearer | (tileIn(line, place) + 1) << shift | farther << (shift + BITS);
        }
    }

    private static final class Player {
        final int number;
        final int moneyAtFirst;
        int money;

        Player(int number, int money) {
            this.number = number;
            this.moneyAtFirst = money;
            this.money = money;
        }
    }

    private static final class Game {
        final Player owner;
        /** Stands for the game in the pins of an entry. */
        final int pinBit;
        long board;
        int z;
        int score = 0;
        int pushCount = 0;
        int row = 0;
        int longestRow = 0;
        int paid = 0;
        boolean voided = false;

        Game(Player owner, int number, int seed) {
            this.owner = owner;
            this.pinBit = 1 << number;
            int secondZ = Boards.drawnZ(seed);
            this.board = Boards.drawn(Boards.drawn(Boards.EMPTY, seed), secondZ);
            this.z = Boards.drawnZ(secondZ);
        }

        /** Goes on by a push that can be done. */
        int go(int to) {
            int gain = Boards.gainOf(board, to);
            board = Boards.drawn(Boards.pushed(board, to), z);
            z = Boards.drawnZ(z);
            score += gain;
            pushCount++;
            return gain;
        }

        void noteFollowing(boolean following) {
            row = following ? row + 1 : 0;
            longestRow = Math.max(longestRow, row);
        }
    }

    /** What a hint that was sold leaves: who looked at which state, and what was told. */
    private static final class Trace {
        final int player;
        final long board;
        final int z;
        final int push;

        Trace(Game game, int push) {
            this.player = game.owner.number;
            this.board = game.board;
            this.z = game.z;
            this.push = push;
        }
    }

    /** A slot of the cache; it is free while its depth is 0. */
    private static final class Entry {
        long board = Boards.EMPTY;
        int z = 0;
        int depth = 0;
        int worth = 0;
        int push = NO_PUSH;
        int lastUse = 0;
        /** One bit for each game that has a pin here. */
        int pins = 0;

        boolean isFree() {
            return depth == 0;
        }

        boolean isFor(long board, int z, int depth) {
            return this.board == board && this.z == z && this.depth == depth;
        }

        void become(Entry other) {
            board = other.board;
            z = other.z;
            depth = other.depth;
            worth = other.worth;
            push = other.push;
            lastUse = other.lastUse;
            pins = other.pins;
        }
    }

    /** Worths and hints of states by depths; those used longest ago make room for others. */
    private static final class Cache {
        final Entry[] slots;
        int count = 0;
        private int room = FIRST_ROOM;
        private int uses = 0;

        Cache(int slotCount) {
            slots = new Entry[Math.max(slotCount, 0)];
            for (int i = 0; i < slots.length; i++) {
                slots[i] = new Entry();
            }
        }

        void become(Cache other) {
            count = other.count;
            room = other.room;
            uses = other.uses;
            for (int i = 0; i < slots.length && i < other.slots.length; i++) {
                slots[i].become(other.slots[i]);
            }
        }

        /** The entry, or null; looking alone does not count as a use. */
        Entry find(long board, int z, int depth) {
            for (Entry entry : slots) {
                if (entry.isFor(board, z, depth)) {
                    return entry;
                }
            }
            return null;
        }

        void use(Entry entry) {
            uses++;
            entry.lastUse = uses;
        }

        /** Puts a state in that is not there yet, unless pinned entries take all the room. */
        void put(long board, int z, int depth, int worth, int push) {
            if (count >= room) {
                dropOldest();
            }
            Entry slot = findFree();
            if (count >= room || slot == null) {
                return;
            }
            slot.board = board;
            slot.z = z;
            slot.depth = depth;
            slot.worth = worth;
            slot.push = push;
            use(slot);
            count++;
        }

        void fitInto(int newRoom) {
            room = newRoom;
            for (int tooMany = count - room; tooMany > 0; tooMany--) {
                dropOldest();
            }
        }

        int countPinned() {
            int sum = 0;
            for (Entry entry : slots) {
                sum += entry.pins != 0 ? 1 : 0;
            }
            return sum;
        }

        int countPins(int pinBit) {
            int sum = 0;
            for (Entry entry : slots) {
                sum += (entry.pins & pinBit) != 0 ? 1 : 0;
            }
            return sum;
        }

        void takePins(int pinBit) {
            for (Entry entry : slots) {
                entry.pins &= ~pinBit;
            }
        }

        private Entry findFree() {
            for (Entry entry : slots) {
                if (entry.isFree()) {
                    return entry;
                }
            }
            return null;
        }

        /** Frees the slot that was used longest ago of those that are not pinned, if there is one. */
        private void dropOldest() {
            Entry oldest = null;
            for (Entry entry : slots) {
                if (!entry.isFree() && entry.pins == 0
                        && (oldest == null || entry.lastUse < oldest.lastUse)) {
                    oldest = entry;
                }
            }
            if (oldest != null) {
                oldest.depth = 0;
                count--;
            }
        }
    }

    /** What a search works on, and what comes of it. */
    private static final class Search {
        final Cache cache;
        int hits = 0;
        int misses = 0;
        int push = NO_PUSH;

        Search(Cache cache) {
            this.cache = cache;
        }

        void start() {
            hits = 0;
            misses = 0;
            push = NO_PUSH;
        }

        int cost() {
            return Math.max(misses, 1);
        }
    }
}
