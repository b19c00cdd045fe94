import java.io.IOException;
import java.lang.reflect.InvocationTargetException;
import java.lang.reflect.Method;
import java.util.ArrayList;
import java.util.Arrays;
import java.util.Comparator;
import java.util.List;

/**
 * A test for each sentence of the document that names a boundary case: each test names its sentence,
 * and the sentences that no test names are found.
 */
public final class EdgesTest {
    /** What the document says without naming anything that a call could show to be broken. */
    private static final String[] WITHOUT_EDGE = {
        "A house of tile games with a shared cache of boards:",
        "pushes that merge, with seeds of draws;",
        "hints sold by depth, cheaper when the cache holds the line;",
        "ages and pins;",
        "traces of who looked at which board;",
        "and a desk that voids a game whose moves follow another one's hints, unpins its boards and pays its "
            + "hints back.",
        "what later calls answer is free.",
        "Players, pushes, hints and judgments come by calls;",
        "Boards.", "Draws.", "Hints.", "Cache.", "Pins.", "Traces.", "Exceptions.",
    };
    /** Tells about comments in the source: FaceTest looks at these. */
    private static final String[] COMMENTS = {"Ahead of the calls ", "---- "};

    private final Checks checks = new Checks("EdgesTest");
    private final List<Sentence> named = new ArrayList<>();
    private final Document document;

    private EdgesTest() throws IOException {
        document = new Document();
    }

    public static void main(String[] args) throws IOException {
        EdgesTest test = new EdgesTest();
        test.run(new BoardEdges(test.checks));
        test.run(new HouseEdges(test.checks));
        test.run(new HintEdges(test.checks));
        test.run(new CacheEdges(test.checks));
        test.run(new PinEdges(test.checks));
        test.run(new DeskEdges(test.checks));
        test.run(new FigureEdges(test.checks));
        test.eachSentenceHasATest();
        test.checks.close();
    }

    private void run(Object part) {
        Method[] methods = part.getClass().getDeclaredMethods();
        Arrays.sort(methods, Comparator.comparing(Method::getName));
        for (Method method : methods) {
            Sentence sentence = method.getAnnotation(Sentence.class);
            if (sentence != null) {
                checks.begin(part.getClass().getSimpleName() + "." + method.getName());
                named.add(sentence);
                checkQuotes(sentence);
                runOne(part, method);
            }
        }
    }

    private void runOne(Object part, Method method) {
        int before = checks.count();
        try {
            method.setAccessible(true);
            method.invoke(part);
        } catch (InvocationTargetException thrown) {
            checks.same("it runs to its end", "no exception", thrown.getCause());
        } catch (IllegalAccessException impossible) {
            throw new IllegalStateException(impossible);
        }
        checks.isTrue("it checks something", checks.count() > before);
    }

    private void checkQuotes(Sentence sentence) {
        for (String words : sentence.says()) {
            checks.isTrue(sentence.of() + " says: " + words, document.says(sentence.of(), words));
        }
    }

    private void eachSentenceHasATest() {
        checks.begin("eachSentenceHasATest");
        checks.same("sections", 32, document.sections().size());
        for (String section : document.sections()) {
            for (String piece : document.pieces(section)) {
                checks.isTrue("a test for " + section + ": " + piece, isWithoutEdge(piece) || isNamed(section, piece));
            }
        }
    }

    private static boolean isWithoutEdge(String piece) {
        for (String comment : COMMENTS) {
            if (piece.startsWith(comment)) {
                return true;
            }
        }
        return Arrays.asList(WITHOUT_EDGE).contains(piece);
    }

    /** A test may name a part of a piece, or a run of several pieces. */
    private boolean isNamed(String section, String piece) {
        for (Sentence sentence : named) {
            for (String says : sentence.says()) {
                String words = Document.plain(says);
                if (sentence.of().equals(section) && (piece.contains(words) || words.contains(piece))) {
                    return true;
                }
            }
        }
        return false;
    }
}
