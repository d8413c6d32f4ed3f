import java.io.IOException;
import java.lang.reflect.Method;
import java.lang.reflect.Modifier;
import java.net.URL;
import java.net.URLClassLoader;
import java.nio.file.Files;
import java.nio.file.Path;
import java.util.Comparator;
import java.util.List;
import java.util.regex.Matcher;
import java.util.regex.Pattern;
import java.util.stream.Stream;
import javax.tools.JavaCompiler;
import javax.tools.ToolProvider;

/** What README.md says: its example answers what stands beside it, and each call, promise and test is named. */
public final class ReadmeTest {
    private static final Pattern EXAMPLE = Pattern.compile("```java\n(.*?)```", Pattern.DOTALL);
    /** A call whose answer is told: rail.law();   // 1: the text is THE LAW now. */
    private static final Pattern TOLD = Pattern.compile("(?m)^( *)(rail\\..*\\));( *)// (-?\\d+)(:.*)$");
    private static final Pattern PROMISES = Pattern.compile("\\| (\\d+)(?: to (\\d+))? \\|");
    private static final int LAST_PROMISE = 45;
    private static final int LEAST_TOLD = 10;
    private int wrong;

    private ReadmeTest() {
    }

    public static void main(String[] args) throws Exception {
        ReadmeTest test = new ReadmeTest();
        String readme = Files.readString(Path.of("README.md"));
        test.example(readme);
        test.calls(readme);
        test.promises(readme);
        test.tests(readme);
        System.out.println(test.wrong == 0 ? "README.md is as it says" : test.wrong + " wrong in README.md");
        if (test.wrong != 0) {
            System.exit(1);
        }
    }

    private void failed(String what) {
        wrong++;
        System.out.println(what);
    }

    private void example(String readme) throws Exception {
        Matcher found = EXAMPLE.matcher(readme);
        if (!found.find()) {
            failed("no example");
            return;
        }
        String code = found.group(1);
        long told = TOLD.matcher(code).results().count();
        if (told < LEAST_TOLD) {
            failed("the example tells " + told + " answers only");
        }
        String checked = TOLD.matcher(code).replaceAll(
            one -> Matcher.quoteReplacement("due(\"" + one.group(2) + "\", " + one.group(2) + ", " + one.group(4) + "L);"));
        wrong += run("public final class ReadmeExample {\n"
            + "private static int wrong;\n"
            + "private static void due(String call, long got, long want) {\n"
            + "if (got != want) { wrong++; System.out.println(call + \" answers \" + got + \", README.md: \" + want); } }\n"
            + "public static int run() {\n" + checked + "\nreturn wrong; } }\n");
    }

    /** How many answers of the example are not as told; one, if it does not compile. */
    private static int run(String source) throws Exception {
        JavaCompiler compiler = ToolProvider.getSystemJavaCompiler();
        Path folder = Files.createTempDirectory("readme");
        try {
            Path file = Files.writeString(folder.resolve("ReadmeExample.java"), source);
            String classes = System.getProperty("java.class.path");
            if (compiler == null || compiler.run(null, null, null, "-cp", classes, "-d", folder.toString(), file.toString()) != 0) {
                System.out.println("the example does not compile");
                return 1;
            }
            try (URLClassLoader loader = new URLClassLoader(new URL[] {folder.toUri().toURL()})) {
                return (int) loader.loadClass("ReadmeExample").getMethod("run").invoke(null);
            }
        } finally {
            remove(folder);
        }
    }

    private static void remove(Path folder) throws IOException {
        try (Stream<Path> all = Files.walk(folder)) {
            for (Path one : all.sorted(Comparator.reverseOrder()).toList()) {
                Files.delete(one);
            }
        }
    }

    private void calls(String readme) {
        String table = readme.substring(readme.indexOf("| Calls |"), readme.indexOf("| Refusal |"));
        for (Method method : EndTooLong.class.getDeclaredMethods()) {
            if (Modifier.isPublic(method.getModifiers()) && !table.contains("`" + method.getName() + "`")) {
                failed("no word of " + method.getName() + "()");
            }
        }
    }

    /** Promise 1 is the constructor; the calls of the others come without a gap. */
    private void promises(String readme) {
        int next = 2;
        Matcher found = PROMISES.matcher(readme);
        while (found.find()) {
            if (Integer.parseInt(found.group(1)) != next) {
                failed("promise " + next + " is not next in: " + found.group());
            }
            next = 1 + Integer.parseInt(found.group(2) == null ? found.group(1) : found.group(2));
        }
        if (next != LAST_PROMISE + 1) {
            failed("the promises end ahead of " + next);
        }
    }

    private void tests(String readme) throws IOException {
        try (Stream<Path> all = Files.list(Path.of("src/test/java"))) {
            List<String> names = all.map(file -> file.getFileName().toString().replace(".java", "")).toList();
            for (String name : names) {
                if (name.endsWith("Test") && !readme.contains("`" + name + "`")) {
                    failed("no word of " + name);
                }
            }
        }
    }
}
