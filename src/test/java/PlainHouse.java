import java.util.ArrayList;
import java.util.Collections;
import java.util.HashMap;
import java.util.HashSet;
import java.util.LinkedHashMap;
import java.util.List;
import java.util.Map;
import java.util.NoSuchElementException;
import java.util.Set;

/**
 * The document once more, written in another way than TileWarden, with the Java library and without
 * regard to speed: lists for boards, a map in the order of use for the cache, a log for what follows.
 */
public final class PlainHouse {
    record State(List<Integer> cells, long z) { }

    record Key(State state, int depth) { }

    record Found(int worth, int push) { }

    record Step(List<Integer> cells, int gain) { }

    record Told(int time, int player, State state, int push) { }

    record Pushed(int time, State state, int to) { }

    static final class Play {
        int player;
        State state;
        int score;
        int paid;
        boolean isVoid;
        final List<Pushed> log = new ArrayList<>();
        final Set<Key> pins = new HashSet<>();
    }

    /** What a search does to a cache, in the order of use: the first key was used longest ago. */
    static final class Looking {
        final LinkedHashMap<Key, Found> order;
        final Set<Key> fixed;
        final int room;
        int hits;
        int misses;

        Looking(LinkedHashMap<Key, Found> order, Set<Key> fixed, int room) {
            this.order = new LinkedHashMap<>(order);
            this.fixed = fixed;
            this.room = room;
        }

        Found look(State state, int depth) {
            if (depth == 0) {
                return new Found(0, -1);
            }
            Key key = new Key(state, depth);
            Found found = order.remove(key);
            if (found != null) {
                hits++;
                order.put(key, found);
                return found;
            }
            misses++;
            List<Integer> worths = new ArrayList<>();
            for (int to = 0; to < 4; to++) {
                Step step = step(state.cells(), to);
                worths.add(step == null ? -1
                        : step.gain() + look(draw(step.cells(), state.z()), depth - 1).worth());
            }
            int best = Collections.max(worths);
            Found answer = best < 0 ? new Found(0, -1) : new Found(best, worths.indexOf(best));
            if (order.size() == room) {
                drop(order, fixed);
            }
            if (order.size() < room) {
                order.put(key, answer);
            }
            return answer;
        }
    }

    private final List<Integer> purses = new ArrayList<>();
    private final List<Play> plays = new ArrayList<>();
    private final List<Told> told = new ArrayList<>();
    private LinkedHashMap<Key, Found> order = new LinkedHashMap<>();
    private int room = 24;
    private int limit = 3;
    private int time = 0;
    private long back = 0;
    private final List<Integer> prices = new ArrayList<>();
    private int hits = 0;
    private int misses = 0;

    // ---- boards and draws

    static int[] cellsOfLine(int to, int line) {
        int[][] columns = {{0, 3, 6}, {1, 4, 7}, {2, 5, 8}};
        int[][] rows = {{0, 1, 2}, {3, 4, 5}, {6, 7, 8}};
        int[] cells = (to == 0 || to == 2 ? columns : rows)[line].clone();
        if (to == 1 || to == 2) {
            int first = cells[0];
            cells[0] = cells[2];
            cells[2] = first;
        }
        return cells;
    }

    /** The board behind a push without its draw, or null if the push changes nothing. */
    static Step step(List<Integer> cells, int to) {
        List<Integer> after = new ArrayList<>(cells);
        int gain = 0;
        for (int line = 0; line < 3; line++) {
            int[] where = cellsOfLine(to, line);
            List<Integer> tiles = new ArrayList<>();
            for (int cell : where) {
                if (cells.get(cell) > 0) {
                    tiles.add(cells.get(cell));
                }
            }
            List<Integer> gone = new ArrayList<>();
            while (!tiles.isEmpty()) {
                int tile = tiles.remove(0);
                if (!tiles.isEmpty() && tiles.get(0) == tile) {
                    tiles.remove(0);
                    tile++;
                    gain += (int) Math.pow(2, tile);
                }
                gone.add(tile);
            }
            for (int place = 0; place < 3; place++) {
                after.set(where[place], place < gone.size() ? gone.get(place) : 0);
            }
        }
        return after.equals(cells) ? null : new Step(after, gain);
    }

    static long next(long z) {
        return (z * 1103515245L + 12345L) % 2147483648L;
    }

    static State draw(List<Integer> cells, long z) {
        List<Integer> empty = new ArrayList<>();
        for (int cell = 0; cell < 9; cell++) {
            if (cells.get(cell) == 0) {
                empty.add(cell);
            }
        }
        long first = next(z);
        long second = next(first);
        List<Integer> after = new ArrayList<>(cells);
        after.set(empty.get((int) (first / 65536 % empty.size())), second / 65536 % 10 == 0 ? 2 : 1);
        return new State(after, second);
    }

    static Found findPlainly(State state, int depth) {
        if (depth == 0) {
            return new Found(0, -1);
        }
        Found best = null;
        for (int to = 0; to < 4; to++) {
            Step step = step(state.cells(), to);
            if (step != null) {
                int worth = step.gain() + findPlainly(draw(step.cells(), state.z()), depth - 1).worth();
                if (best == null || worth > best.worth()) {
                    best = new Found(worth, to);
                }
            }
        }
        return best == null ? new Found(0, -1) : best;
    }

    static void drop(LinkedHashMap<Key, Found> order, Set<Key> fixed) {
        for (Key key : order.keySet()) {
            if (!fixed.contains(key)) {
                order.remove(key);
                return;
            }
        }
    }

    // ---- what calls look up and refuse

    private int purse(int player) {
        if (player < 0 || player >= purses.size()) {
            throw new IndexOutOfBoundsException();
        }
        return purses.get(player);
    }

    private Play play(int game) {
        if (game < 0 || game >= plays.size()) {
            throw new IndexOutOfBoundsException();
        }
        return plays.get(game);
    }

    private Told trace(int trace) {
        if (trace < 0 || trace >= told.size()) {
            throw new IndexOutOfBoundsException();
        }
        return told.get(trace);
    }

    private static void need(boolean fine) {
        if (!fine) {
            throw new IllegalArgumentException();
        }
    }

    private static void support(boolean fine) {
        if (!fine) {
            throw new UnsupportedOperationException();
        }
    }

    private Set<Key> fixed() {
        Set<Key> all = new HashSet<>();
        for (Play play : plays) {
            all.addAll(play.pins);
        }
        return all;
    }

    private boolean over(Play play) {
        for (int to = 0; to < 4; to++) {
            if (step(play.state.cells(), to) != null) {
                return false;
            }
        }
        return true;
    }

    /** The push that a hint would tell, found without the cache; -1 if the game is over. */
    public int tellPlainly(int game, int depth) {
        return findPlainly(play(game).state, depth).push();
    }

    // ---- the face

    public int addPlayer(int money) {
        need(money >= 0 && money <= 9999);
        if (purses.size() == 4) {
            throw new IllegalStateException();
        }
        purses.add(money);
        return purses.size() - 1;
    }

    public int open(int player, int seed) {
        purse(player);
        need(seed >= 0);
        if (plays.size() == 8) {
            throw new IllegalStateException();
        }
        Play play = new Play();
        play.player = player;
        play.state = draw(Collections.nCopies(9, 0), seed);
        play.state = draw(play.state.cells(), play.state.z());
        plays.add(play);
        return plays.size() - 1;
    }

    public int push(int game, int to) {
        Play play = play(game);
        need(to >= 0 && to < 4);
        Step step = step(play.state.cells(), to);
        support(!play.isVoid && step != null);
        play.log.add(new Pushed(time++, play.state, to));
        play.state = draw(step.cells(), play.state.z());
        play.score += step.gain();
        return step.gain();
    }

    public int at(int game, int row, int column) {
        Play play = play(game);
        need(row >= 0 && row < 3 && column >= 0 && column < 3);
        return play.state.cells().get(3 * row + column);
    }

    public int score(int game) {
        return play(game).score;
    }

    public int pushes(int game) {
        return play(game).log.size();
    }

    public boolean canPush(int game, int to) {
        Play play = play(game);
        need(to >= 0 && to < 4);
        return step(play.state.cells(), to) != null;
    }

    public boolean isOver(int game) {
        return over(play(game));
    }

    public int price(int game, int depth) {
        Play play = play(game);
        need(depth >= 1 && depth <= 4);
        support(!play.isVoid && !over(play));
        Looking looking = new Looking(order, fixed(), room);
        looking.look(play.state, depth);
        return Math.max(1, looking.misses);
    }

    public int hint(int game, int depth) {
        int price = price(game, depth);
        Play play = play(game);
        if (purse(play.player) < price) {
            throw new NoSuchElementException();
        }
        if (told.size() == 60) {
            throw new IllegalStateException();
        }
        Looking looking = new Looking(order, fixed(), room);
        int push = looking.look(play.state, depth).push();
        order = looking.order;
        hits += looking.hits;
        misses += looking.misses;
        prices.add(price);
        purses.set(play.player, purse(play.player) - price);
        play.paid += price;
        told.add(new Told(time++, play.player, play.state, push));
        return push;
    }

    public int worth(int game, int depth) {
        Play play = play(game);
        need(depth >= 0 && depth <= 4);
        return findPlainly(play.state, depth).worth();
    }

    public int money(int player) {
        return purse(player);
    }

    public int setRoom(int room) {
        need(room >= 1 && room <= 64);
        support(fixed().size() <= room);
        this.room = room;
        while (order.size() > room) {
            drop(order, fixed());
        }
        return order.size();
    }

    public int entries() {
        return order.size();
    }

    public boolean isCached(int game, int depth) {
        Play play = play(game);
        need(depth >= 1 && depth <= 4);
        return order.containsKey(new Key(play.state, depth));
    }

    public int pin(int game, int depth) {
        boolean there = isCached(game, depth);
        Play play = play(game);
        support(!play.isVoid);
        if (!there) {
            throw new NoSuchElementException();
        }
        play.pins.add(new Key(play.state, depth));
        return play.pins.size();
    }

    public int unpin(int game) {
        Play play = play(game);
        int had = play.pins.size();
        play.pins.clear();
        return had;
    }

    public int pinned() {
        return fixed().size();
    }

    public int follows(int game) {
        Play play = play(game);
        int longest = 0;
        int row = 0;
        for (Pushed pushed : play.log) {
            boolean other = false;
            boolean own = false;
            for (Told one : told) {
                if (one.time() < pushed.time() && one.state().equals(pushed.state())) {
                    own |= one.player() == play.player;
                    other |= one.player() != play.player && one.push() == pushed.to();
                }
            }
            row = other && !own ? row + 1 : 0;
            longest = Math.max(longest, row);
        }
        return longest;
    }

    public int setLimit(int limit) {
        need(limit >= 1 && limit <= 9);
        int before = this.limit;
        this.limit = limit;
        return before;
    }

    public int judge(int game) {
        Play play = play(game);
        support(!play.isVoid);
        if (follows(game) < limit) {
            return -1;
        }
        play.isVoid = true;
        play.pins.clear();
        purses.set(play.player, purse(play.player) + play.paid);
        back += play.paid;
        return play.paid;
    }

    public boolean isVoid(int game) {
        return play(game).isVoid;
    }

    public int traces() {
        return told.size();
    }

    public int playerOf(int trace) {
        return trace(trace).player();
    }

    public int pushOf(int trace) {
        return trace(trace).push();
    }

    public long refunds() {
        return back;
    }

    public float hitShare() {
        if (hits + misses == 0) {
            throw new ArithmeticException();
        }
        return (float) hits / (float) (hits + misses);
    }

    public double meanPrice() {
        if (prices.isEmpty()) {
            throw new ArithmeticException();
        }
        double sum = 0;
        for (int price : prices) {
            sum += price;
        }
        return sum / prices.size();
    }

    /** Each entry and each pin is looked at again; the sums hold by the document. */
    public boolean isSound() {
        for (Map.Entry<Key, Found> entry : order.entrySet()) {
            if (!entry.getValue().equals(findPlainly(entry.getKey().state(), entry.getKey().depth()))) {
                return false;
            }
        }
        Map<Boolean, Integer> paid = new HashMap<>();
        for (Play play : plays) {
            paid.merge(play.isVoid, play.paid, Integer::sum);
        }
        return order.keySet().containsAll(fixed()) && back == paid.getOrDefault(true, 0);
    }
}
