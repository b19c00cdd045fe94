import java.util.List;

/**
 * Checks that calls leave a house as it was: whatever comes behind, it answers like a house that had
 * no such call.
 */
final class Undisturbed {
    /** Makes houses that are alike. */
    interface Maker {
        TileWarden make();
    }

    private final Checks checks;

    Undisturbed(Checks checks) {
        this.checks = checks;
    }

    /** Checks that a call throws exactly this class and leaves the house as it was. */
    void refused(String what, Class<? extends RuntimeException> want, Maker maker, Sequel.Call call) {
        for (Sequel sequel : Sequel.values()) {
            TileWarden house = maker.make();
            checks.refused(what, want, () -> call.on(house));
            compare(what, sequel, maker.make(), house);
        }
    }

    /** Checks that a call that throws nothing leaves the house as it was. */
    void asked(String what, Maker maker, Sequel.Call call) {
        for (Sequel sequel : Sequel.values()) {
            TileWarden house = maker.make();
            checks.isTrue(what + " is answered", !(Checks.answer(() -> call.on(house)) instanceof Class));
            compare(what, sequel, maker.make(), house);
        }
    }

    private void compare(String what, Sequel sequel, TileWarden without, TileWarden with) {
        List<String> want = sequel.tell(without);
        List<String> got = sequel.tell(with);
        checks.same(what + ", and then " + sequel + ", answers", want.size(), got.size());
        for (int i = 0; i < want.size() && i < got.size(); i++) {
            if (!want.get(i).equals(got.get(i))) {
                checks.same(what + ", and then " + sequel, want.get(i), got.get(i));
                return;
            }
        }
    }
}
