import java.util.NoSuchElementException;

/** What the classes of edges, which EdgesTest runs, have in common. */
abstract class Edges {
    static final Class<IndexOutOfBoundsException> INDEX = IndexOutOfBoundsException.class;
    static final Class<IllegalArgumentException> ARGUMENT = IllegalArgumentException.class;
    static final Class<IllegalStateException> STATE = IllegalStateException.class;
    static final Class<UnsupportedOperationException> UNSUPPORTED = UnsupportedOperationException.class;
    static final Class<NoSuchElementException> MISSING = NoSuchElementException.class;
    static final Class<ArithmeticException> ARITHMETIC = ArithmeticException.class;
    /** The games of Houses.lively() are 0 to 6. */
    private static final int[] NO_GAME = {Integer.MIN_VALUE, -1, 7, 8, Integer.MAX_VALUE};
    private static final int[] NO_DEPTH = {Integer.MIN_VALUE, -1, 0, 5, Integer.MAX_VALUE};

    final Checks checks;
    final Undisturbed undisturbed;

    Edges(Checks checks) {
        this.checks = checks;
        this.undisturbed = new Undisturbed(checks);
    }

    /** A call of a house with a number that is tried. */
    interface Numbered {
        Object on(TileWarden house, int number);
    }

    /** Checks that a call refuses each of these numbers and changes nothing. */
    void refusesEach(Class<? extends RuntimeException> want, int[] numbers, Numbered call) {
        for (int number : numbers) {
            undisturbed.refused("with " + number, want, Houses::lively, house -> call.on(house, number));
        }
    }

    /** Checks the numbers next to those of games, and those far off; also in a house without games. */
    void refusesNoSuchGame(Numbered call) {
        refusesEach(INDEX, NO_GAME, call);
        undisturbed.refused("without a game", INDEX, TileWarden::new, house -> call.on(house, 0));
        undisturbed.refused("8, where there are 8", INDEX, Houses::full, house -> call.on(house, 8));
    }

    /** Checks the numbers next to the depths from 1 to 4, and those far off. */
    void refusesNoSuchDepth(Numbered call) {
        refusesEach(ARGUMENT, NO_DEPTH, call);
    }
}
