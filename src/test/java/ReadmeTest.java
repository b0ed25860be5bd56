import java.io.IOException;
import java.lang.reflect.Field;
import java.lang.reflect.Method;
import java.lang.reflect.Modifier;
import java.net.URL;
import java.net.URLClassLoader;
import java.nio.file.DirectoryStream;
import java.nio.file.Files;
import java.nio.file.Path;
import java.util.ArrayList;
import java.util.List;
import java.util.regex.Matcher;
import java.util.regex.Pattern;
import javax.tools.ToolProvider;

/** What README.md says of the class and its tests, as both now stand. */
public final class ReadmeTest {
    private static final Check check = new Check();
    private static final Pattern EXAMPLE = Pattern.compile("(?s)```java\n(.*?)```");
    private static final Pattern ANSWERED = Pattern.compile("(x\\.\\w+\\(.*?\\)); +// (-?\\d+): .*");
    private static final Path TESTS = Path.of("src/test/java");

    public static void main(String[] args) throws Exception {
        String readme = Files.readString(Path.of("README.md"));
        examples(readme);
        calls(readme);
        tests(readme);
        check.end();
    }

    /** The examples are compiled as they stand, one behind the other, and each call answers what is said behind it. */
    private static void examples(String readme) throws Exception {
        List<String> calls = new ArrayList<>();
        List<Long> wanted = new ArrayList<>();
        StringBuilder body = new StringBuilder();
        Matcher example = EXAMPLE.matcher(readme);
        while (example.find()) {
            for (String line : example.group(1).split("\n")) {
                Matcher answered = ANSWERED.matcher(line);
                boolean answers = answered.matches();
                check.that("an answer is told behind " + line, answers == line.startsWith("x."));
                if (answers) {
                    calls.add(answered.group(1));
                    wanted.add(Long.parseLong(answered.group(2)));
                }
                body.append(answers ? "got.add((long) " + answered.group(1) + ");" : line).append('\n');
            }
        }
        check.that("there are examples", calls.size() > 20);
        List<Long> got = run(body.toString());
        check.due("calls of the examples", got.size(), calls.size());
        for (int i = 0; i < got.size(); i++) {
            check.due("README.md: " + calls.get(i), got.get(i), wanted.get(i));
        }
    }

    private static List<Long> run(String body) throws Exception {
        Path folder = Files.createTempDirectory("readme");
        Path file = folder.resolve("Examples.java");
        Files.writeString(file, "public final class Examples { public static void run(java.util.List<Long> got) {\n"
            + body + "} }\n");
        List<Long> got = new ArrayList<>();
        int refused = ToolProvider.getSystemJavaCompiler().run(null, null, null,
            "-d", folder.toString(), "-cp", System.getProperty("java.class.path"), file.toString());
        check.due("compiling the examples", refused, 0);
        if (refused == 0) {
            try (URLClassLoader loader = new URLClassLoader(new URL[] {folder.toUri().toURL()})) {
                loader.loadClass("Examples").getMethod("run", List.class).invoke(null, got);
            }
        }
        remove(folder);
        return got;
    }

    private static void remove(Path folder) throws IOException {
        try (DirectoryStream<Path> files = Files.newDirectoryStream(folder)) {
            for (Path file : files) Files.delete(file);
        }
        Files.delete(folder);
    }

    private static void calls(String readme) {
        for (Method m : FlatToLet.class.getDeclaredMethods()) {
            if (Modifier.isPublic(m.getModifiers())) check.that(m.getName() + " is named", names(readme, m.getName()));
        }
        for (Field f : FlatToLet.class.getDeclaredFields()) {
            if (Modifier.isPublic(f.getModifiers())) check.that(f.getName() + " is named", names(readme, f.getName()));
        }
    }

    private static void tests(String readme) throws IOException {
        try (DirectoryStream<Path> files = Files.newDirectoryStream(TESTS, "*Test.java")) {
            for (Path file : files) {
                String test = file.getFileName().toString().replace(".java", "");
                check.that(test + " is named", names(readme, test));
            }
        }
        Matcher named = Pattern.compile("`(\\w+Test)`").matcher(readme);
        while (named.find()) {
            check.that(named.group(1) + " is there", Files.exists(TESTS.resolve(named.group(1) + ".java")));
        }
        check.that(".ci/run is named and can be run", names(readme, ".ci/run") && Files.isExecutable(Path.of(".ci/run")));
    }

    private static boolean names(String readme, String name) {
        return readme.contains("`" + name + "`");
    }
}
