import java.io.IOException;
import java.lang.reflect.InvocationTargetException;
import java.lang.reflect.Method;
import java.lang.reflect.Modifier;
import java.net.MalformedURLException;
import java.net.URL;
import java.net.URLClassLoader;
import java.nio.file.DirectoryStream;
import java.nio.file.Files;
import java.nio.file.Path;
import java.util.ArrayList;
import java.util.List;
import java.util.Set;
import java.util.TreeSet;
import java.util.regex.Matcher;
import java.util.regex.Pattern;
import javax.tools.JavaCompiler;
import javax.tools.ToolProvider;

/** Each example of README.md answers as it says there, and README.md shows every call and names every test. */
public final class ReadmeTest {
    private static final Path FOLDER = Path.of("build/readme");
    private static final Path TESTS = Path.of("src/test/java");
    private static final String PROGRAM = "ReadmeExamples";
    private static final int MOST_CALLS = 512;

    private final Checks checks = new Checks("ReadmeTest");
    private final Readme readme;

    private ReadmeTest() throws IOException {
        readme = new Readme();
    }

    public static void main(String[] args) throws IOException {
        ReadmeTest test = new ReadmeTest();
        test.eachExampleIsACallWithItsAnswer();
        test.eachExampleAnswersAsItSays();
        test.everyCallHasAnExample();
        test.everyKindOfExceptionHasAnExample();
        test.everyTestOfTheProjectIsNamed();
        test.checks.close();
    }

    /** A line without an answer would be an example that nothing holds to what it says. */
    private void eachExampleIsACallWithItsAnswer() {
        checks.begin("eachExampleIsACallWithItsAnswer");
        List<Readme.Example> examples = readme.examples();
        checks.isTrue("there are examples", !examples.isEmpty());
        checks.isTrue("they keep to the calls of an object", examples.size() <= MOST_CALLS);
        for (Readme.Example example : examples) {
            checks.isTrue("a call: " + example, !example.call().isEmpty());
            checks.isTrue("an answer: " + example, !example.answer().isEmpty() || isMaking(example));
        }
    }

    private static boolean isMaking(Readme.Example example) {
        return example.call().equals("new TileWarden()");
    }

    private void eachExampleAnswersAsItSays() throws IOException {
        checks.begin("eachExampleAnswersAsItSays");
        List<Readme.Example> examples = readme.examples();
        Files.createDirectories(FOLDER);
        Path source = FOLDER.resolve(PROGRAM + ".java");
        Files.writeString(source, programOf(examples));
        JavaCompiler compiler = ToolProvider.getSystemJavaCompiler();
        int failure = compiler.run(null, null, null, "-cp", System.getProperty("java.class.path"),
                "-d", FOLDER.toString(), source.toString());
        checks.same("the examples compile, one behind the other", 0, failure);
        List<Object> answers = failure == 0 ? answersOf() : List.of();
        checks.same("each one answers", examples.size(), answers.size());
        for (int i = 0; i < examples.size() && i < answers.size(); i++) {
            Readme.Example example = examples.get(i);
            if (!isMaking(example)) {
                checks.same(example.call(), example.answer(), String.valueOf(answers.get(i)));
            }
        }
    }

    /** One method that makes all calls of the examples in their order and keeps what each answers. */
    private static String programOf(List<Readme.Example> examples) {
        StringBuilder program = new StringBuilder();
        program.append("import java.util.*;\npublic final class ").append(PROGRAM).append(" {\n");
        program.append("    public static List<Object> answers() {\n");
        program.append("        List<Object> answers = new ArrayList<>();\n");
        for (Readme.Example example : examples) {
            program.append("        ").append(statementOf(example)).append('\n');
        }
        return program.append("        return answers;\n    }\n}\n").toString();
    }

    private static String statementOf(Readme.Example example) {
        if (example.isRefused()) {
            return "try { answers.add(" + example.call() + "); } catch (RuntimeException thrown) { "
                    + "answers.add(\"throws \" + thrown.getClass().getSimpleName()); }";
        }
        if (example.name().isEmpty()) {
            return "answers.add(" + example.call() + ");";
        }
        return example.type() + " " + example.name() + " = " + example.call() + "; answers.add("
                + example.name() + ");";
    }

    private List<Object> answersOf() throws MalformedURLException, IOException {
        try (URLClassLoader loader = new URLClassLoader(new URL[] {FOLDER.toUri().toURL()})) {
            Object answers = loader.loadClass(PROGRAM).getMethod("answers").invoke(null);
            return new ArrayList<>((List<?>) answers);
        } catch (InvocationTargetException thrown) {
            checks.same("the examples run to their end", "no exception", thrown.getCause());
            return List.of();
        } catch (ReflectiveOperationException impossible) {
            throw new IllegalStateException(impossible);
        }
    }

    private void everyCallHasAnExample() {
        checks.begin("everyCallHasAnExample");
        StringBuilder calls = new StringBuilder();
        for (Readme.Example example : readme.examples()) {
            calls.append(example.isRefused() ? "" : example.call()).append('\n');
        }
        for (Method method : TileWarden.class.getDeclaredMethods()) {
            if (Modifier.isPublic(method.getModifiers())) {
                checks.isTrue(method.getName(), calls.indexOf("." + method.getName() + "(") >= 0);
            }
        }
    }

    private void everyKindOfExceptionHasAnExample() {
        checks.begin("everyKindOfExceptionHasAnExample");
        Set<String> due = new TreeSet<>();
        for (Method method : TileWarden.class.getDeclaredMethods()) {
            for (Class<?> thrown : method.getExceptionTypes()) {
                due.add(thrown.getSimpleName());
            }
        }
        Set<String> shown = new TreeSet<>();
        for (Readme.Example example : readme.examples()) {
            if (example.isRefused()) {
                shown.add(example.thrown());
            }
        }
        checks.same("exceptions", due, shown);
    }

    /** Whoever adds a test tells about it, with the command that runs it. The shared tests come from others. */
    private void everyTestOfTheProjectIsNamed() throws IOException {
        checks.begin("everyTestOfTheProjectIsNamed");
        Set<String> told = new TreeSet<>();
        Matcher command = Pattern.compile("(?m)^java -cp build/own (\\w+)$").matcher(readme.aboutTests());
        while (command.find()) {
            told.add(command.group(1));
        }
        checks.same("tests with a command", namesOfTests(), told);
        checks.isTrue("all of them at once", readme.aboutTests().contains("bash .ci/run"));
    }

    private static Set<String> namesOfTests() throws IOException {
        Set<String> names = new TreeSet<>();
        try (DirectoryStream<Path> found = Files.newDirectoryStream(TESTS, "*Test.java")) {
            for (Path file : found) {
                names.add(file.getFileName().toString().replaceAll("\\.java$", ""));
            }
        }
        return names;
    }
}
