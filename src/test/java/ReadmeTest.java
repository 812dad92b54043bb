import java.io.IOException;
import java.lang.reflect.Method;
import java.lang.reflect.Modifier;
import java.net.URL;
import java.net.URLClassLoader;
import java.nio.file.Files;
import java.nio.file.Path;
import java.util.ArrayList;
import java.util.List;
import java.util.regex.Matcher;
import java.util.regex.Pattern;
import java.util.stream.Stream;
import javax.tools.ToolProvider;

/** README.md: each call that it shows is compiled, asked and compared, and it names every call and every test. */
public final class ReadmeTest {
    private static final Path README = Path.of("README.md"), TESTS = Path.of("src/test/java");
    private static final Pattern BLOCK = Pattern.compile("(?s)```java\n(.*?)```");
    private static final Pattern SHOWN = Pattern.compile("(x\\.\\w+\\(.*\\)); +// (-?\\d+|NONE|BAD|STATE|FULL)\\b.*");
    private static final int LEAST_SHOWN = 40;
    private static final Expect e = new Expect();

    public static void main(String[] args) throws Exception {
        String text = Files.readString(README);
        answersAreAsShown(text);
        namesEveryCall(text);
        namesEveryTest(text);
        e.end();
    }

    private static void answersAreAsShown(String text) throws Exception {
        List<String> calls = new ArrayList<>();
        List<Integer> due = new ArrayList<>();
        StringBuilder body = new StringBuilder();
        Matcher block = BLOCK.matcher(text);
        while (block.find()) {
            for (String line : block.group(1).split("\n")) {
                Matcher shown = SHOWN.matcher(line);
                if (!shown.matches()) {
                    e.is("README shows an answer that cannot be read: " + line, line.contains("//") ? 1 : 0, 0);
                    body.append(line).append('\n');
                    continue;
                }
                calls.add(shown.group(1));
                due.add(number(shown.group(2)));
                body.append("answers.add(").append(shown.group(1)).append(");\n");
            }
        }
        List<?> answers = run(body.toString());
        e.is("answers for the calls shown", answers.size(), due.size());
        e.is("enough calls are shown", calls.size() >= LEAST_SHOWN ? 1 : 0, 1);
        for (int i = 0; i < answers.size() && i < due.size(); i++) {
            e.is("README: " + calls.get(i), (Integer) answers.get(i), due.get(i));
        }
    }

    private static int number(String told) {
        switch (told) {
            case "NONE": return Expect.NONE;
            case "BAD": return Expect.BAD;
            case "STATE": return Expect.STATE;
            case "FULL": return Expect.FULL;
            default: return Integer.parseInt(told);
        }
    }

    private static List<?> run(String body) throws Exception {
        Path dir = Files.createTempDirectory("readme");
        Path source = dir.resolve("Shown.java");
        Path made = dir.resolve("Shown.class");
        try (URLClassLoader loader = new URLClassLoader(new URL[] {dir.toUri().toURL()}, ReadmeTest.class.getClassLoader())) {
            Files.writeString(source, "public class Shown {\npublic static java.util.List<Integer> all() {\n"
                + "java.util.List<Integer> answers = new java.util.ArrayList<>();\n" + body + "return answers;\n}\n}\n");
            int failed = ToolProvider.getSystemJavaCompiler().run(null, null, null, "-proc:none",
                "-cp", System.getProperty("java.class.path"), "-d", dir.toString(), source.toString());
            e.is("README's calls compile", failed, 0);
            return failed != 0 ? List.of() : (List<?>) loader.loadClass("Shown").getMethod("all").invoke(null);
        } finally {
            Files.deleteIfExists(made);
            Files.deleteIfExists(source);
            Files.deleteIfExists(dir);
        }
    }

    private static void namesEveryCall(String text) {
        int calls = 0;
        for (Method m : HammockReach.class.getDeclaredMethods()) {
            if (Modifier.isPublic(m.getModifiers())) {
                calls++;
                e.is("README shows " + m.getName(), text.contains("x." + m.getName() + "(") ? 1 : 0, 1);
            }
        }
        e.is("calls of the face", calls, 33 - 1);
    }

    private static void namesEveryTest(String text) throws IOException {
        List<String> there = new ArrayList<>();
        try (Stream<Path> files = Files.list(TESTS)) {
            files.map(f -> f.getFileName().toString()).filter(f -> f.endsWith("Test.java"))
                .forEach(f -> there.add(f.substring(0, f.length() - ".java".length())));
        }
        e.is("tests are there", there.isEmpty() ? 1 : 0, 0);
        for (String name : there) {
            e.is("README names " + name, text.contains("`" + name + "`") ? 1 : 0, 1);
        }
        Matcher named = Pattern.compile("`(\\w+Test)`").matcher(text);
        while (named.find()) {
            e.is("README names a test that is there: " + named.group(1), there.contains(named.group(1)) ? 1 : 0, 1);
        }
    }
}
