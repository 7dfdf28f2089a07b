import java.io.IOException;
import java.lang.reflect.Method;
import java.lang.reflect.Modifier;
import java.nio.file.Files;
import java.nio.file.Path;
import java.util.List;
import java.util.regex.Matcher;
import java.util.regex.Pattern;
import java.util.stream.Collectors;
import java.util.stream.Stream;

/** What README.md says: its examples answer so, it names every call and every test, and the command for all tests. */
public final class ReadmeTest {
    private static final Checks CHECKS = new Checks();
    private static final Path README = Path.of("README.md");
    private static final Path TESTS = Path.of("src/test/java");
    private static final Pattern MAKE = Pattern.compile("MudBoot boot = new MudBoot\\((\\d+), (\\d+)\\);");
    private static final Pattern CALL = Pattern.compile("boot\\.(\\w+)\\(([^()]*)\\); *// (true|false|-?\\d+)\\b.*");

    private static int value(String text) {
        if (text.equals("true") || text.equals("false")) return text.equals("true") ? 1 : 0;
        return text.equals("MudBoot.NONE") ? MudBoot.NONE : Long.decode(text).intValue();
    }

    private static Object given(Class<?> type, String text) {
        if (type == boolean.class) return Boolean.valueOf(text);
        return value(text);
    }

    private static int answer(MudBoot boot, String name, String inside) throws ReflectiveOperationException {
        String[] texts = inside.isEmpty() ? new String[0] : inside.split(", *");
        for (Method m : MudBoot.class.getMethods()) {
            if (!m.getName().equals(name) || m.getParameterCount() != texts.length) continue;
            Object[] all = new Object[texts.length];
            for (int i = 0; i < texts.length; i++) all[i] = given(m.getParameterTypes()[i], texts[i]);
            return value(String.valueOf(m.invoke(boot, all)));
        }
        throw new NoSuchMethodException(name + "(" + inside + ")");
    }

    /** Each line of an example makes an object, is a call with its answer, or a comment. */
    private static void examples(String readme) throws ReflectiveOperationException {
        Matcher block = Pattern.compile("(?s)```java\n(.*?)```").matcher(readme);
        int calls = 0;
        while (block.find()) {
            MudBoot boot = null;
            for (String line : block.group(1).split("\n")) {
                Matcher make = MAKE.matcher(line);
                Matcher call = CALL.matcher(line);
                if (make.matches()) {
                    boot = new MudBoot(value(make.group(1)), value(make.group(2)));
                } else if (call.matches() && boot != null) {
                    calls++;
                    CHECKS.due(line, answer(boot, call.group(1), call.group(2)), value(call.group(3)));
                } else {
                    CHECKS.due("a comment alone: " + line, line.startsWith("//"), true);
                }
            }
        }
        CHECKS.due("examples are seen", calls > 30, true);
    }

    /** The bytes told in comments are those that are fed. */
    private static void texts(String readme) {
        Matcher told = Pattern.compile("// \"([^\"]*)\".*\nboot\\.feed\\(([^()]*)\\)").matcher(readme);
        int seen = 0;
        while (told.find()) {
            String[] fives = told.group(2).split(", *");
            for (int i = 0; i < 5; i++) CHECKS.due(told.group(1), value(fives[i]), Checks.four(told.group(1), 4 * i));
            seen++;
        }
        CHECKS.due("texts are seen", seen, 2);
    }

    private static void names(String readme) throws IOException {
        for (Method m : MudBoot.class.getDeclaredMethods()) {
            if (!Modifier.isPublic(m.getModifiers())) continue;
            CHECKS.due("names " + m.getName(), readme.contains("`" + m.getName() + "`"), true);
        }
        List<String> tests;
        try (Stream<Path> files = Files.list(TESTS)) {
            tests = files.map(f -> f.getFileName().toString().replace(".java", "")).collect(Collectors.toList());
        }
        for (String test : tests) {
            if (test.endsWith("Test")) CHECKS.due("names " + test, readme.contains("`" + test + "`"), true);
        }
    }

    /** The command runs all that ends with Test here, and all under ../shared/tests. */
    private static void command(String readme) throws IOException {
        CHECKS.due("names the command", readme.contains("```sh\n.ci/run\n```"), true);
        CHECKS.due("it can be run", Files.isExecutable(Path.of(".ci/run")), true);
        String command = Files.readString(Path.of(".ci/run"));
        CHECKS.due("it runs the project's", command.contains("in src/test/java/*Test.java;"), true);
        CHECKS.due("it runs the shared", command.contains("in ../shared/tests/*.java;"), true);
    }

    public static void main(String[] args) throws IOException, ReflectiveOperationException {
        String readme = Files.readString(README);
        examples(readme);
        texts(readme);
        names(readme);
        command(readme);
        CHECKS.finish("ReadmeTest");
    }
}
