/** The edges of the figures, the promises 27 to 30, and of what is said for every exception. */
final class FigureEdges extends Edges {
    private static final int[] FAR = {Integer.MIN_VALUE, -1, 99, Integer.MAX_VALUE};

    FigureEdges(Checks checks) {
        super(checks);
    }

    // ---- what is asked, and exceptions

    @Sentence(of = "Terms", says = "boards, prices and voids are asked.")
    private void askingChangesNothing() {
        Sequel.Call[] asked = {
            house -> house.at(0, 2, 2), house -> house.score(0), house -> house.pushes(0),
            house -> house.canPush(0, 0), house -> house.isOver(2), house -> house.price(0, 4),
            house -> house.worth(0, 4), house -> house.money(0), TileWarden::entries,
            house -> house.isCached(5, 1), TileWarden::pinned, house -> house.follows(1),
            house -> house.isVoid(1), TileWarden::traces, house -> house.playerOf(0),
            house -> house.pushOf(0), TileWarden::refunds, TileWarden::hitShare, TileWarden::meanPrice,
            TileWarden::isSound,
        };
        for (int i = 0; i < asked.length; i++) {
            undisturbed.asked("the call " + i, Houses::lively, asked[i]);
        }
    }

    @Sentence(of = "Terms", says = "A method that throws an exception changes nothing.")
    private void exceptionsManyInARowChangeNothing() {
        undisturbed.asked("many refused calls", Houses::lively, FigureEdges::refuseMany);
        undisturbed.asked("many refused calls in a full house", Houses::full, FigureEdges::refuseMany);
        undisturbed.asked("many refused calls in a new house", TileWarden::new, FigureEdges::refuseMany);
    }

    /** Makes calls that are refused in every house; tells how many were not. */
    private static int refuseMany(TileWarden house) {
        int answered = 0;
        for (int far : FAR) {
            Sequel.Call[] calls = {
                each -> each.addPlayer(far < 0 ? far : 10000), each -> each.open(far, 0),
                each -> each.push(far, 0), each -> each.hint(far, 1), each -> each.pin(far, 1),
                each -> each.unpin(far), each -> each.judge(far), each -> each.setRoom(far),
                each -> each.setLimit(far), each -> each.price(far, 1), each -> each.worth(far, 1),
            };
            for (Sequel.Call call : calls) {
                answered += Checks.answer(() -> call.on(house)) instanceof Class ? 0 : 1;
            }
        }
        return answered;
    }

    @Sentence(of = "Terms", says = "A method that throws an exception changes nothing.")
    private void exceptionsAllThoseCallsAreRefused() {
        checks.same("in a lively house", 0, refuseMany(Houses.lively()));
        checks.same("in a full house", 0, refuseMany(Houses.full()));
        checks.same("in a new house", 0, refuseMany(new TileWarden()));
    }

    // ---- promise 27: refunds

    @Sentence(of = "Promise 27", says = {"Returns what was paid back in all.", "Returns the sum."})
    private void promise27NoneOneAndSeveral() {
        checks.same("a new house", 0L, new TileWarden().refunds());
        TileWarden house = Houses.players(9999, 100, 100);
        for (int player = 0; player < 3; player++) {
            house.open(player, 3);
        }
        for (int step = 0; step < 3; step++) {
            int told = house.hint(0, 1);
            for (int game = 0; game < 3; game++) {
                house.push(game, told);
            }
        }
        house.hint(1, 2);
        int first = 100 - house.money(1);
        house.hint(2, 2);
        checks.same("paid, but not back", 0L, house.refunds());
        house.judge(0);
        checks.same("not void", 0L, house.refunds());
        house.judge(1);
        checks.same("the first", (long) first, house.refunds());
        house.judge(2);
        checks.same("and the second, who paid 1 for a hit", first + 1L, house.refunds());
    }

    @Sentence(of = "Terms", says = "each refund has a void behind it")
    private void promise27EachRefundHasAVoidBehindIt() {
        TileWarden house = Houses.voidGame();
        checks.same("the void game paid 1", 1L, house.refunds());
        checks.refused("judged again", UNSUPPORTED, () -> house.judge(1));
        house.judge(0);
        house.unpin(1);
        checks.same("nothing else pays back", 1L, house.refunds());
        TileWarden unpaid = Houses.voidAndPoor();
        checks.same("void", true, unpaid.isVoid(1));
        checks.same("a void game that paid nothing", 0L, unpaid.refunds());
    }

    // ---- promise 28: hitShare

    @Sentence(of = "Promise 28", says = "Throws `ArithmeticException` if there are none")
    private void promise28None() {
        checks.refused("a new house", ARITHMETIC, () -> new TileWarden().hitShare());
        undisturbed.refused("before a hint", ARITHMETIC, () -> Houses.oneGame(7), TileWarden::hitShare);
        TileWarden poor = Houses.players(0);
        poor.open(0, 7);
        poor.price(0, 4);
        poor.worth(0, 4);
        checks.refused("a hint that is not sold", MISSING, () -> poor.hint(0, 1));
        checks.refused("still none", ARITHMETIC, poor::hitShare);
    }

    @Sentence(of = "Promise 28", says = {
        "Returns the share of hits among all hits and misses that hints which were sold made.",
        "Returns their number divided by that of all, both converted to float."})
    private void promise28OneAndMany() {
        TileWarden house = Houses.oneGame(7);
        house.hint(0, 1);
        checks.same("one miss, the smallest share", 0f, house.hitShare());
        for (int hits = 1; hits < 60; hits++) {
            house.hint(0, 1);
            checks.same("hits " + hits, (float) hits / (float) (hits + 1), house.hitShare());
        }
        checks.refused("a hint that is not sold", STATE, () -> house.hint(0, 1));
        house.price(0, 1);
        checks.same("does not count", 59f / 60f, house.hitShare());
        TileWarden inside = Houses.oneGame(0);
        inside.hint(0, 3);
        checks.same("hits within one hint count", 2f / 21f, inside.hitShare());
        TileWarden voided = Houses.voidGame();
        checks.same("those of void games count", 1f / 5f, voided.hitShare());
    }

    // ---- promise 29: meanPrice

    @Sentence(of = "Promise 29", says = "Throws `ArithmeticException` if none was sold")
    private void promise29None() {
        checks.refused("a new house", ARITHMETIC, () -> new TileWarden().meanPrice());
        undisturbed.refused("before a hint", ARITHMETIC, () -> Houses.oneGame(7), TileWarden::meanPrice);
        TileWarden poor = Houses.players(4);
        poor.open(0, 7);
        poor.price(0, 2);
        checks.refused("a hint that is not sold", MISSING, () -> poor.hint(0, 2));
        checks.refused("still none", ARITHMETIC, poor::meanPrice);
        poor.hint(0, 1);
        checks.same("one", 1.0, poor.meanPrice());
    }

    @Sentence(of = "Promise 29", says = {"Returns the mean price of hints that were sold.",
        "Returns the sum divided by their number, both converted to double."})
    private void promise29OneAndMany() {
        TileWarden house = Houses.oneGame(7);
        house.hint(0, 4);
        checks.same("one", 56.0, house.meanPrice());
        for (int hits = 1; hits < 60; hits++) {
            house.hint(0, 4);
            checks.same("hits " + hits, (56.0 + hits) / (1.0 + hits), house.meanPrice());
        }
        checks.refused("a hint that is not sold", STATE, () -> house.hint(0, 3));
        house.price(0, 3);
        checks.same("does not count", 115.0 / 60.0, house.meanPrice());
        TileWarden voided = Houses.twins(3);
        Houses.chase(voided, 3);
        int price = voided.price(1, 3);
        voided.hint(1, 3);
        voided.judge(1);
        checks.same("what was paid back counts", (3.0 + price) / 4.0, voided.meanPrice());
    }

    // ---- promise 30: isSound

    @Sentence(of = "Promise 30", says = "Returns whether this holds.")
    private void promise30EmptyAndFull() {
        checks.same("a new house", true, new TileWarden().isSound());
        checks.same("a lively house", true, Houses.lively().isSound());
        checks.same("a full house", true, Houses.full().isSound());
        checks.same("behind a void", true, Houses.voidGame().isSound());
        checks.same("behind a void of the first game", true, Houses.voidFirstGame().isSound());
        checks.same("it was paid back", 1L, Houses.voidFirstGame().refunds());
        checks.same("void and poor", true, Houses.voidAndPoor().isSound());
        TileWarden house = Houses.oneGame(0);
        for (int room : new int[] {64, 24, 1, 2, 64}) {
            house.setRoom(room);
            house.hint(0, 4);
            house.pin(0, 4);
            checks.same("room " + room, true, house.isSound());
            house.push(0, Houses.firstWay(house, 0));
            house.hint(0, 3);
            house.unpin(0);
            checks.same("room " + room + ", gone on", true, house.isSound());
        }
        undisturbed.asked("isSound", Houses::lively, TileWarden::isSound);
    }

    @Sentence(of = "Promise 30",
            says = "Checks whether each entry has the worth and hint that are found without the cache")
    private void promise30EachEntryIsLookedAt() {
        int entries = Houses.lively().entries();
        for (int place = 0; place < entries; place++) {
            TileWarden worth = Houses.lively();
            Inside.addToEntry(worth, place, "worth", 4);
            checks.same("the entry " + place + " with another worth", false, worth.isSound());
            TileWarden hint = Houses.lively();
            Inside.addToEntry(hint, place, "push", 1);
            checks.same("the entry " + place + " with another hint", false, hint.isSound());
        }
    }

    @Sentence(of = "Promise 30", says = "each pinned entry is there")
    private void promise30EachPinnedEntryIsThere() {
        TileWarden house = Houses.lively();
        int free = house.entries();
        Inside.addToEntry(house, free, "pins", 1);
        checks.same("a pin where no entry is", false, house.isSound());
    }

    @Sentence(of = "Promise 30", says = "what was paid back is what players paid for hints in void games")
    private void promise30WhatWasPaidBack() {
        for (int more : new int[] {-1, 1}) {
            TileWarden refunds = Houses.lively();
            Inside.addRefunds(refunds, more);
            checks.same("paid back " + more, false, refunds.isSound());
            TileWarden paid = Houses.lively();
            Inside.addPaid(paid, 1, more);
            checks.same("paid in the void game " + more, false, paid.isSound());
            TileWarden first = Houses.voidFirstGame();
            Inside.addPaid(first, 0, more);
            checks.same("paid in the first game " + more, false, first.isSound());
        }
    }

    @Sentence(of = "Promise 30", says = "and all else that they paid is gone from their money")
    private void promise30AllElseIsGone() {
        for (int more : new int[] {-1, 1}) {
            for (int player = 0; player < 3; player++) {
                TileWarden money = Houses.lively();
                Inside.addMoney(money, player, more);
                checks.same("the money of " + player + " " + more, false, money.isSound());
            }
            TileWarden paid = Houses.lively();
            Inside.addPaid(paid, 4, more);
            checks.same("paid in another game " + more, false, paid.isSound());
        }
    }
}
