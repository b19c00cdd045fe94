import java.lang.reflect.InvocationTargetException;
import java.lang.reflect.Method;
import java.util.ArrayList;
import java.util.Arrays;
import java.util.HashMap;
import java.util.List;
import java.util.Map;

/** A TileWarden and a PlainHouse that are called alike and must answer alike. */
final class Pair {
    private static final Map<String, Method> WARDEN = methodsOf(TileWarden.class);
    private static final Map<String, Method> HOUSE = methodsOf(PlainHouse.class);

    private final Checks checks;
    private final TileWarden warden = new TileWarden();
    private final PlainHouse house = new PlainHouse();
    private final List<String> told = new ArrayList<>();
    private boolean parted = false;

    Pair(Checks checks) {
        this.checks = checks;
    }

    private static Map<String, Method> methodsOf(Class<?> type) {
        Map<String, Method> methods = new HashMap<>();
        for (Method method : type.getDeclaredMethods()) {
            if (java.lang.reflect.Modifier.isPublic(method.getModifiers())) {
                methods.put(method.getName(), method);
            }
        }
        return methods;
    }

    private static Object answer(Method method, Object target, Object[] args) {
        try {
            return method.invoke(target, args);
        } catch (InvocationTargetException thrown) {
            return thrown.getCause().getClass();
        } catch (IllegalAccessException impossible) {
            throw new IllegalStateException(impossible);
        }
    }

    /** What PlainHouse alone answers; this is no call of the TileWarden. */
    Object ask(String name, Object... args) {
        return answer(HOUSE.get(name), house, args);
    }

    /** Makes a call on both; tells what is due. */
    Object call(String name, Object... args) {
        Object want = answer(HOUSE.get(name), house, args);
        Object got = answer(WARDEN.get(name), warden, args);
        told.add(name + Arrays.toString(args) + " = " + got);
        if (!want.equals(got) && !parted) {
            parted = true;
            checks.same("run of calls " + told, want, got);
        }
        return want;
    }

    /** How many calls the TileWarden has had. */
    int calls() {
        return told.size();
    }

    /** Whether the two have answered differently; what comes behind tells nothing new. */
    boolean hasParted() {
        return parted;
    }
}
