import java.lang.reflect.Field;
import java.util.List;

/**
 * Reaches into a TileWarden, to break what no call can break. The names of its fields stand here
 * alone; a change of them is no fault of the class.
 */
final class Inside {
    private Inside() {
    }

    private static Field field(Object owner, String name) {
        try {
            Field field = owner.getClass().getDeclaredField(name);
            field.setAccessible(true);
            return field;
        } catch (NoSuchFieldException missing) {
            throw new IllegalStateException("Inside has an old name: " + name);
        }
    }

    private static Object get(Object owner, String name) {
        try {
            return field(owner, name).get(owner);
        } catch (IllegalAccessException impossible) {
            throw new IllegalStateException(impossible);
        }
    }

    /** Adds to a number in a field. */
    private static void add(Object owner, String name, int more) {
        try {
            Field field = field(owner, name);
            if (field.getType() == long.class) {
                field.setLong(owner, field.getLong(owner) + more);
            } else {
                field.setInt(owner, field.getInt(owner) + more);
            }
        } catch (IllegalAccessException impossible) {
            throw new IllegalStateException(impossible);
        }
    }

    static void addRefunds(TileWarden house, int more) {
        add(house, "refunds", more);
    }

    static void addMoney(TileWarden house, int player, int more) {
        add(((List<?>) get(house, "players")).get(player), "money", more);
    }

    static void addPaid(TileWarden house, int game, int more) {
        add(((List<?>) get(house, "games")).get(game), "paid", more);
    }

    /** Adds to a number of the entry that was put in as this one, counted from 0. */
    static void addToEntry(TileWarden house, int place, String name, int more) {
        add(((Object[]) get(get(house, "cache"), "slots"))[place], name, more);
    }
}
