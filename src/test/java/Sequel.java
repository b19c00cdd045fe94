import java.util.ArrayList;
import java.util.List;

/** What can come behind a call: calls whose answers would show what it has changed. */
enum Sequel {
    /** Asks for everything that can be asked. */
    LOOK {
        @Override
        void go(Teller teller, int games) {
            for (int player = 0; player < 5; player++) {
                int asked = player;
                teller.tell("money of " + player, house -> house.money(asked));
            }
            for (int game = 0; game <= games; game++) {
                lookAt(teller, game);
            }
            int traces = teller.house.traces();
            for (int trace = 0; trace <= traces; trace++) {
                int asked = trace;
                teller.tell("player of trace " + trace, house -> house.playerOf(asked));
                teller.tell("push of trace " + trace, house -> house.pushOf(asked));
            }
            teller.tell("entries", TileWarden::entries);
            teller.tell("pinned", TileWarden::pinned);
            teller.tell("refunds", TileWarden::refunds);
            teller.tell("hitShare", TileWarden::hitShare);
            teller.tell("meanPrice", TileWarden::meanPrice);
            teller.tell("isSound", TileWarden::isSound);
        }

        private void lookAt(Teller teller, int game) {
            teller.tell("board of " + game, house -> Houses.board(house, game));
            teller.tell("score of " + game, house -> house.score(game));
            teller.tell("pushes of " + game, house -> house.pushes(game));
            teller.tell("isOver of " + game, house -> house.isOver(game));
            teller.tell("follows of " + game, house -> house.follows(game));
            teller.tell("isVoid of " + game, house -> house.isVoid(game));
            teller.tell("worth of " + game, house -> house.worth(game, 4));
            for (int depth = 1; depth <= 4; depth++) {
                int asked = depth;
                teller.tell("price of " + game + " at " + depth, house -> house.price(game, asked));
                teller.tell("isCached of " + game + " at " + depth, house -> house.isCached(game, asked));
            }
        }
    },
    /** Takes the room away step by step, which shows in what order entries were used. */
    SHRINK {
        @Override
        void go(Teller teller, int games) {
            int most = teller.house.entries() - 1;
            for (int room = most; room > 0; room--) {
                int wanted = room;
                teller.tell("setRoom to " + room, house -> house.setRoom(wanted));
                for (int game = 0; game < games; game++) {
                    int asked = game;
                    teller.tell(room + ", isCached of " + game, house -> house.isCached(asked, 1));
                    teller.tell(room + ", price of " + game, house -> house.price(asked, 2));
                }
            }
        }
    },
    /** Buys hints until the room is full, which shows how much there is. */
    BUY {
        @Override
        void go(Teller teller, int games) {
            for (int game = 0; game < games; game++) {
                int helped = game;
                teller.tell("hint of " + game, house -> house.hint(helped, 4));
                teller.tell("entries behind it", TileWarden::entries);
            }
            for (int game = 0; game < games; game++) {
                lookAt(teller, game);
            }
            teller.tell("traces", TileWarden::traces);
            teller.tell("hitShare", TileWarden::hitShare);
            teller.tell("meanPrice", TileWarden::meanPrice);
        }

        private void lookAt(Teller teller, int game) {
            teller.tell("price of " + game, house -> house.price(game, 3));
            teller.tell("isCached of " + game, house -> house.isCached(game, 2));
        }
    },
    /** Pushes every game, first as the last trace tells, which shows z and the row that follows. */
    PLAY {
        @Override
        void go(Teller teller, int games) {
            int traces = teller.house.traces();
            int told = traces > 0 ? teller.house.pushOf(traces - 1) : 0;
            for (int game = 0; game < games; game++) {
                for (int turn = 0; turn < 4; turn++) {
                    push(teller, game, (told + turn) % 4);
                }
            }
        }

        private void push(Teller teller, int game, int to) {
            teller.tell("push of " + game + " to " + to, house -> house.push(game, to));
            teller.tell("board behind it", house -> Houses.board(house, game));
            teller.tell("follows of " + game, house -> house.follows(game));
        }
    },
    /** Adds players and games until there is no place. */
    ADD {
        @Override
        void go(Teller teller, int games) {
            for (int i = 0; i < 5; i++) {
                teller.tell("addPlayer", house -> house.addPlayer(7));
            }
            for (int i = 0; i < 9; i++) {
                teller.tell("open", house -> house.open(0, 7));
            }
            teller.tell("the board of the first game", house -> Houses.board(house, 0));
        }
    },
    /** Judges and unpins every game. */
    JUDGE {
        @Override
        void go(Teller teller, int games) {
            teller.tell("setLimit", house -> house.setLimit(1));
            for (int game = 0; game < games; game++) {
                int judged = game;
                teller.tell("judge of " + game, house -> house.judge(judged));
                teller.tell("unpin of " + game, house -> house.unpin(judged));
                teller.tell("pinned", TileWarden::pinned);
            }
            teller.tell("refunds", TileWarden::refunds);
            teller.tell("isSound", TileWarden::isSound);
        }
    };

    /** A call of a house. */
    interface Call {
        Object on(TileWarden house);
    }

    /** Makes calls of a house and keeps what they answer. */
    static final class Teller {
        final TileWarden house;
        final List<String> told = new ArrayList<>();

        Teller(TileWarden house) {
            this.house = house;
        }

        void tell(String what, Call call) {
            told.add(what + " = " + Checks.answer(() -> call.on(house)));
        }
    }

    abstract void go(Teller teller, int games);

    /** What the calls of this sequel answer. */
    List<String> tell(TileWarden house) {
        int games = 0;
        while (games < 8 && isThere(house, games)) {
            games++;
        }
        Teller teller = new Teller(house);
        go(teller, games);
        return teller.told;
    }

    private static boolean isThere(TileWarden house, int game) {
        return !(Checks.answer(() -> house.score(game)) instanceof Class);
    }
}
