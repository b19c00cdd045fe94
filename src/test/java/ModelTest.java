import java.util.Map;
import java.util.Random;
import java.util.TreeMap;

/** Long runs of chosen calls on TileWarden and on PlainHouse, which must answer alike. */
public final class ModelTest {
    private static final int CALLS = 512;
    private static final int RUNS = 240;

    private final Checks checks = new Checks("ModelTest");
    /** How often each answer of note came, so that the runs are known to go where it matters. */
    private final Map<String, Integer> seen = new TreeMap<>();
    private Random dice;
    private Pair pair;

    public static void main(String[] args) {
        ModelTest test = new ModelTest();
        for (int run = 0; run < RUNS; run++) {
            test.mixedRun(run);
            test.chasingRun(run);
        }
        test.checkSeen();
        if (args.length > 0) {
            System.out.println(test.seen);
        }
        test.checks.close();
    }

    /** Makes a call on both, and counts what is due. */
    private void call(String name, Object... args) {
        Object want = pair.call(name, args);
        String kind = want instanceof Class<?> thrown ? thrown.getSimpleName() : kindOf(want);
        seen.merge(name + " " + kind, 1, Integer::sum);
    }

    private static String kindOf(Object answer) {
        return answer instanceof Boolean ? answer.toString()
                : ((Number) answer).doubleValue() > 0 ? "more" : answer.equals(-1) ? "-1" : "none";
    }

    private void begin(int seed) {
        dice = new Random(seed);
        pair = new Pair(checks);
    }

    private void end(String run) {
        askAll();
        checks.isTrue(run + " answers alike", !pair.hasParted());
    }

    private void mixedRun(int run) {
        begin(run);
        int wealth = dice.nextInt(4) == 0 ? 30 : 9999;
        for (int player = 0; player < 2 + dice.nextInt(3); player++) {
            call("addPlayer", dice.nextInt(wealth + 1));
        }
        // Few seeds make games of several players meet in the same states.
        int seeds = 1 + dice.nextInt(2);
        int style = run % 4;
        for (int game = 0; game < 2 + dice.nextInt(4); game++) {
            call("open", dice.nextInt(2), dice.nextInt(seeds));
        }
        while (pair.calls() < CALLS - 40 && !pair.hasParted()) {
            mixedCall(style);
        }
        end("the mixed run " + run);
    }

    /** Three games go the same way from the same seed, and now and then one of them looks first. */
    private void chasingRun(int run) {
        begin(-1 - run);
        int seed = dice.nextInt();
        seed = seed < 0 ? -1 - seed : seed;
        for (int game = 0; game < 3; game++) {
            call("addPlayer", 40 + dice.nextInt(400));
            call("open", game == 2 ? dice.nextInt(3) : game, seed);
        }
        call("setLimit", 1 + dice.nextInt(6));
        for (int step = 0; step < 40 && !pair.hasParted(); step++) {
            chasingStep();
        }
        end("the chasing run " + run);
    }

    private void chasingStep() {
        int depth = 1 + dice.nextInt(3);
        for (int game = 0; game < 3; game++) {
            if (dice.nextInt(10) < (game == 0 ? 9 : 2)) {
                call("hint", game, depth);
            }
            if (dice.nextInt(6) == 0) {
                call("pin", game, depth);
            }
        }
        Object best = pair.ask("tellPlainly", 0, depth);
        int to = dice.nextInt(8) == 0 ? dice.nextInt(4) : (Integer) best;
        for (int game = 0; game < 3; game++) {
            call("push", game, to);
            if (dice.nextInt(12) == 0) {
                call("hint", game, depth);
            }
        }
        call("follows", 1 + dice.nextInt(2));
        if (dice.nextInt(10) == 0) {
            call("judge", dice.nextInt(3));
            call("pinned");
            call("money", dice.nextInt(3));
        }
    }

    private void mixedCall(int style) {
        int game = dice.nextInt(10) == 0 ? dice.nextInt(12) - 2 : dice.nextInt(3);
        int depth = style == 2 ? 1 + dice.nextInt(2) : dice.nextInt(12) == 0 ? 5 - 5 * dice.nextInt(2)
                : 1 + dice.nextInt(4);
        int turn = dice.nextInt(100);
        if (turn < (style == 3 ? 50 : 30)) {
            call("push", game, wayFor(game, style));
        } else if (turn < (style == 2 ? 65 : 55)) {
            // In one style mostly the game 0 buys, so that others follow it, some without a hint of their own.
            call("hint", style == 1 && dice.nextInt(12) > 0 ? Math.min(game, 0) : game, depth);
        } else if (turn < 65) {
            call("price", game, depth);
        } else if (turn < 75) {
            call("isCached", game, depth);
            call("pin", game, depth);
            call("pinned");
        } else if (turn < 78) {
            call("unpin", game);
        } else if (turn < 82) {
            call("setRoom", dice.nextInt(8) == 0 ? dice.nextInt(70) - 2 : 1 + dice.nextInt(32));
            call("entries");
        } else if (turn < 86) {
            call("follows", game);
        } else if (turn < 88) {
            call("setLimit", dice.nextInt(6) == 0 ? dice.nextInt(13) - 1 : 2 + dice.nextInt(8));
        } else if (turn < 90) {
            call("judge", game);
        } else if (turn < 91) {
            call("open", dice.nextInt(6) - 1, dice.nextInt(4) - 1);
        } else if (turn < 92) {
            call("addPlayer", dice.nextInt(12000) - 1000);
        } else {
            lookAround(game, depth);
        }
    }

    /** Mostly the way that a hint tells, so that the games of several players stay together. */
    private int wayFor(int game, int style) {
        if (dice.nextInt(30) == 0) {
            return dice.nextInt(7) - 2;
        }
        if (style == 1 || dice.nextInt(3) > 0) {
            for (int to = 0; to < 4; to++) {
                if (Boolean.TRUE.equals(pair.ask("canPush", game, to))) {
                    return to;
                }
            }
        }
        return dice.nextInt(4);
    }

    private void lookAround(int game, int depth) {
        call("canPush", game, dice.nextInt(5) - 1 + dice.nextInt(2));
        call("isOver", game);
        call("worth", game, depth);
        call("score", game);
        call("money", dice.nextInt(6) - 1);
        call("at", game, dice.nextInt(5) - 1, dice.nextInt(5) - 1);
    }

    private void askAll() {
        for (String name : new String[] {"entries", "pinned", "traces", "refunds", "hitShare", "meanPrice"}) {
            call(name);
        }
        call("isSound");
        checks.same("isSound", true, pair.ask("isSound"));
        for (int player = 0; player < 4; player++) {
            call("money", player);
        }
        for (int game = 0; game < 3; game++) {
            for (String name : new String[] {"follows", "isVoid", "pushes", "score", "isOver"}) {
                call(name, game);
            }
        }
        for (int trace : new int[] {-1, dice.nextInt(60), dice.nextInt(60), 60}) {
            call("playerOf", trace);
            call("pushOf", trace);
        }
        checks.isTrue("a run keeps to " + CALLS + " calls", pair.calls() <= CALLS);
    }

    private void checkSeen() {
        String[] due = {
            "addPlayer IllegalArgumentException", "addPlayer IllegalStateException",
            "open IndexOutOfBoundsException", "open IllegalArgumentException", "open IllegalStateException",
            "push IndexOutOfBoundsException", "push IllegalArgumentException",
            "push UnsupportedOperationException", "push more", "push none",
            "hint UnsupportedOperationException", "hint NoSuchElementException",
            "hint IllegalStateException", "hint none", "hint more", "price more",
            "isOver true", "isOver false", "isVoid true", "isVoid false",
            "pin more", "pin NoSuchElementException", "pin UnsupportedOperationException",
            "unpin more", "unpin none", "setRoom UnsupportedOperationException",
            "judge more", "judge -1", "judge none", "judge UnsupportedOperationException",
            "refunds more", "refunds none", "hitShare more", "meanPrice more",
        };
        for (String kind : due) {
            checks.isTrue("the runs come to: " + kind, seen.getOrDefault(kind, 0) > 3);
        }
    }
}
