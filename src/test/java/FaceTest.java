import java.io.IOException;
import java.lang.management.ManagementFactory;
import java.lang.reflect.Method;
import java.lang.reflect.Modifier;
import java.nio.file.Files;
import java.nio.file.Path;
import java.util.ArrayList;
import java.util.Arrays;
import java.util.HashSet;
import java.util.List;
import java.util.Set;
import java.util.TreeSet;
import java.util.regex.Matcher;
import java.util.regex.Pattern;

/** The face of the class, the rules of ../shared/LANGUAGE.md that can be seen from outside, and the room. */
public final class FaceTest {
    private static final Path SOURCE = Path.of("src/main/java/TileWarden.java");
    private static final String[] FACE = {
        "int addPlayer(int) IllegalArgumentException, IllegalStateException",
        "int open(int, int) IndexOutOfBoundsException, IllegalArgumentException, IllegalStateException",
        "int push(int, int) IndexOutOfBoundsException, IllegalArgumentException, UnsupportedOperationException",
        "int at(int, int, int) IndexOutOfBoundsException, IllegalArgumentException",
        "int score(int) IndexOutOfBoundsException",
        "int pushes(int) IndexOutOfBoundsException",
        "boolean canPush(int, int) IndexOutOfBoundsException, IllegalArgumentException",
        "boolean isOver(int) IndexOutOfBoundsException",
        "int price(int, int) IndexOutOfBoundsException, IllegalArgumentException, UnsupportedOperationException",
        "int hint(int, int) IndexOutOfBoundsException, IllegalArgumentException, UnsupportedOperationException, "
            + "NoSuchElementException, IllegalStateException",
        "int worth(int, int) IndexOutOfBoundsException, IllegalArgumentException",
        "int money(int) IndexOutOfBoundsException",
        "int setRoom(int) IllegalArgumentException, UnsupportedOperationException",
        "int entries() ",
        "boolean isCached(int, int) IndexOutOfBoundsException, IllegalArgumentException",
        "int pin(int, int) IndexOutOfBoundsException, IllegalArgumentException, UnsupportedOperationException, "
            + "NoSuchElementException",
        "int unpin(int) IndexOutOfBoundsException",
        "int pinned() ",
        "int follows(int) IndexOutOfBoundsException",
        "int setLimit(int) IllegalArgumentException",
        "int judge(int) IndexOutOfBoundsException, UnsupportedOperationException",
        "boolean isVoid(int) IndexOutOfBoundsException",
        "int traces() ",
        "int playerOf(int) IndexOutOfBoundsException",
        "int pushOf(int) IndexOutOfBoundsException",
        "long refunds() ",
        "float hitShare() ArithmeticException",
        "double meanPrice() ArithmeticException",
        "boolean isSound() ",
    };
    /** What the rules 3 to 8 and 13 rule out, as it would stand in the source. */
    private static final String[] RULED_OUT = {
        "->", "::", "\\bfinally\\b", "\\bsynchronized\\b", "\\bassert\\b", "\\brecord\\b", "\\bcatch\\b", "\\bvar\\b",
        "static\\s*\\{", "\\w+Exact\\b", "\\bSystem\\.(?!arraycopy)", "\\bRandom\\b", "\\bThread\\b", "\\bObject\\b",
        "\"\\s*\\+", "\\+\\s*\"", "\\bInteger\\.(MAX|MIN)_VALUE\\b", "\\bpackage\\b", "\\bimport static\\b",
        "\\b(hashCode|toString)\\b", "[^\\x00-\\x7f]",
    };

    private final Checks checks = new Checks("FaceTest");

    public static void main(String[] args) throws IOException {
        FaceTest test = new FaceTest();
        test.theFaceIsTheDocuments();
        test.noOtherMemberIsSeen();
        test.noPrivateMethodBearsAPublicName();
        test.theSourceKeepsToTheRules();
        test.theSourceSaysWhatTheInterfaceSays();
        test.methodsAndClassesAreSmall();
        test.aRunFitsIntoTheRoom();
        test.checks.close();
    }

    private void theFaceIsTheDocuments() {
        Set<String> due = new TreeSet<>(Arrays.asList(FACE));
        Set<String> found = new TreeSet<>();
        for (Method method : TileWarden.class.getDeclaredMethods()) {
            if (Modifier.isPublic(method.getModifiers())) {
                found.add(textOf(method));
            }
        }
        checks.same("public methods", due, found);
        checks.same("public constructors", 1, TileWarden.class.getConstructors().length);
        checks.same("its parameters", 0, TileWarden.class.getConstructors()[0].getParameterCount());
        int kind = TileWarden.class.getModifiers();
        checks.isTrue("public and final", Modifier.isPublic(kind) && Modifier.isFinal(kind));
    }

    private static String textOf(Method method) {
        List<String> taken = new ArrayList<>();
        for (Class<?> type : method.getParameterTypes()) {
            taken.add(type.getSimpleName());
        }
        List<String> thrown = new ArrayList<>();
        for (Class<?> type : method.getExceptionTypes()) {
            thrown.add(type.getSimpleName());
        }
        return method.getReturnType().getSimpleName() + " " + method.getName() + "("
                + String.join(", ", taken) + ") " + String.join(", ", thrown);
    }

    private void noOtherMemberIsSeen() {
        for (Method method : TileWarden.class.getDeclaredMethods()) {
            int kind = method.getModifiers();
            checks.isTrue(method + " is public or private", Modifier.isPublic(kind) || Modifier.isPrivate(kind));
        }
        for (java.lang.reflect.Field field : TileWarden.class.getDeclaredFields()) {
            checks.isTrue(field + " is private", Modifier.isPrivate(field.getModifiers()));
        }
        for (Class<?> inside : TileWarden.class.getDeclaredClasses()) {
            checks.isTrue(inside + " is private and static",
                    Modifier.isPrivate(inside.getModifiers()) && Modifier.isStatic(inside.getModifiers()));
        }
    }

    private void noPrivateMethodBearsAPublicName() {
        Set<String> names = new HashSet<>();
        for (Method method : TileWarden.class.getMethods()) {
            names.add(method.getName());
        }
        List<Class<?>> classes = new ArrayList<>(Arrays.asList(TileWarden.class.getDeclaredClasses()));
        classes.add(TileWarden.class);
        for (Class<?> one : classes) {
            for (Method method : one.getDeclaredMethods()) {
                boolean own = one == TileWarden.class && Modifier.isPublic(method.getModifiers());
                checks.isTrue(method + " has a name of its own", own || !names.contains(method.getName()));
            }
        }
    }

    private void theSourceKeepsToTheRules() throws IOException {
        String code = codeOf(Files.readString(SOURCE));
        for (String pattern : RULED_OUT) {
            Matcher found = Pattern.compile(pattern).matcher(code);
            checks.isTrue("no " + pattern, !found.find());
        }
        Set<String> imports = new TreeSet<>();
        Matcher line = Pattern.compile("import ([\\w.]+);").matcher(code);
        while (line.find()) {
            imports.add(line.group(1));
        }
        checks.same("imports", "[java.util.ArrayList, java.util.NoSuchElementException]", imports.toString());
    }

    /** The lines that stand ahead of the calls, and the calls up to the next one. */
    private void theSourceSaysWhatTheInterfaceSays() throws IOException {
        StringBuilder found = new StringBuilder();
        Matcher line = Pattern.compile("(?m)^    // (---- .*)$|^    public \\w+ (\\w+)\\(")
                .matcher(Files.readString(SOURCE));
        while (line.find()) {
            found.append(line.group(1) == null ? line.group(2) + " " : "\n" + line.group(1) + ": ");
        }
        checks.isTrue("calls by headings: " + found, found.toString().startsWith("\n"
                + "---- players and games: addPlayer open push at score pushes canPush isOver \n"
                + "---- hints: price hint worth money \n"
                + "---- the cache: setRoom entries isCached pin unpin pinned \n"
                + "---- the desk: follows setLimit judge isVoid traces playerOf pushOf \n"
                + "---- figures: refunds hitShare meanPrice isSound \n"));
    }

    private static String codeOf(String source) {
        return source.replaceAll("(?s)/\\*.*?\\*/", "").replaceAll("//[^\\n]*", "");
    }

    private void methodsAndClassesAreSmall() throws IOException {
        int classes = 1 + TileWarden.class.getDeclaredClasses().length;
        checks.isTrue("some twelve classes: " + classes, classes <= 12);
        List<Class<?>> all = new ArrayList<>(Arrays.asList(TileWarden.class.getDeclaredClasses()));
        all.add(TileWarden.class);
        for (Class<?> one : all) {
            int fields = 0;
            for (java.lang.reflect.Field field : one.getDeclaredFields()) {
                fields += Modifier.isStatic(field.getModifiers()) ? 0 : 1;
                checks.isTrue(field + ": static is final",
                        !Modifier.isStatic(field.getModifiers()) || Modifier.isFinal(field.getModifiers()));
            }
            checks.isTrue("some twenty fields: " + one, fields <= 20);
            for (Method method : one.getDeclaredMethods()) {
                checks.isTrue("seven parameters: " + method, method.getParameterCount() <= 7);
            }
        }
    }

    /** 600,000 objects of 7.3 million elements are some 60 MB; a run is to stay far below. */
    private void aRunFitsIntoTheRoom() {
        com.sun.management.ThreadMXBean meter =
                (com.sun.management.ThreadMXBean) ManagementFactory.getThreadMXBean();
        dearRun();
        long before = meter.getCurrentThreadAllocatedBytes();
        dearRun();
        long bytes = meter.getCurrentThreadAllocatedBytes() - before;
        checks.isTrue("bytes of a dear run: " + bytes, bytes < 100_000);
    }

    /** Some 512 calls of the dearest kinds. */
    private static void dearRun() {
        TileWarden house = new TileWarden();
        house.addPlayer(9999);
        house.setRoom(64);
        for (int game = 0; game < 8; game++) {
            house.open(0, 100 + game);
        }
        for (int turn = 0; turn < 50; turn++) {
            int game = turn % 8;
            house.price(game, 4);
            house.push(game, house.hint(game, 4));
            for (int i = 0; i < 7; i++) {
                house.isSound();
            }
        }
    }
}
