import java.io.File;
import java.lang.reflect.Method;
import java.lang.reflect.Modifier;
import java.net.URL;
import java.net.URLClassLoader;
import java.nio.file.Files;
import java.nio.file.Path;
import java.util.Set;
import java.util.TreeSet;
import java.util.regex.Matcher;
import java.util.regex.Pattern;
import javax.tools.ToolProvider;

/** README.md says how to use the class and how to run its tests: its example is run, its rows are counted. */
public final class ReadmeTest {
    private static final Due DUE = new Due();

    public static void main(String[] args) throws Exception {
        String page = Files.readString(Path.of("README.md"));
        DUE.is("answers of the example", "", answersNotDue(example(page)));
        DUE.is("rows of calls", calls().toString(), callsToldOf(page).toString());
        DUE.is("rows of tests", tests().toString(), testsToldOf(page).toString());
        DUE.is("it says how to run the tests", 1, page.contains("\n    bash .ci/run\n") ? 1 : 0);
        DUE.end("ReadmeTest");
    }

    private static String example(String page) {
        Matcher block = Pattern.compile("```java\n(.*?)```", Pattern.DOTALL).matcher(page);
        if (!block.find()) {
            throw new IllegalStateException("no example");
        }
        return block.group(1);
    }

    /** Each call with a number behind it in a remark is compared with that; all is compiled as it stands else. */
    private static String answersNotDue(String example) throws Exception {
        Matcher call = Pattern.compile("(?m)^(x\\..*\\)); *// (-?\\d+): .*$").matcher(example);
        DUE.is("at least ten calls are shown", 1, call.results().count() >= 10 ? 1 : 0);
        String body = call.reset().replaceAll("if ($1 != $2) { wrong += \"$1 is not $2; \"; }");
        Path folder = Files.createTempDirectory("readme");
        Path file = folder.resolve("ReadmeExample.java");
        try {
            Files.writeString(file, "public final class ReadmeExample { public static String wrong() {\nString wrong = \"\";\n"
                + body + "\nreturn wrong; } }\n");
            int failed = ToolProvider.getSystemJavaCompiler().run(null, null, null, "-cp",
                System.getProperty("java.class.path"), "-d", folder.toString(), file.toString());
            return failed != 0 ? "it does not compile" : wrongOf(folder);
        } finally {
            for (File left : folder.toFile().listFiles()) {
                left.delete();
            }
            folder.toFile().delete();
        }
    }

    private static String wrongOf(Path folder) throws Exception {
        try (URLClassLoader loader = new URLClassLoader(new URL[] {folder.toUri().toURL()})) {
            return (String) loader.loadClass("ReadmeExample").getMethod("wrong").invoke(null);
        }
    }

    /** By name and how many numbers they take. */
    private static Set<String> calls() {
        Set<String> calls = new TreeSet<>();
        for (Method m : TaughtClocks.class.getDeclaredMethods()) {
            if (Modifier.isPublic(m.getModifiers())) {
                calls.add(m.getName() + " " + m.getParameterCount());
            }
        }
        return calls;
    }

    private static Set<String> callsToldOf(String page) {
        Set<String> told = new TreeSet<>();
        Matcher row = Pattern.compile("(?m)^\\| `(\\w+)\\(([^)]*)\\)` \\| ").matcher(page);
        while (row.find()) {
            told.add(row.group(1) + " " + (row.group(2).isEmpty() ? 0 : row.group(2).split(",").length));
        }
        return told;
    }

    private static Set<String> tests() {
        Set<String> tests = new TreeSet<>();
        for (String name : new File("src/test/java").list()) {
            if (name.endsWith("Test.java")) {
                tests.add(name.replace(".java", ""));
            }
        }
        return tests;
    }

    private static Set<String> testsToldOf(String page) {
        Set<String> told = new TreeSet<>();
        Matcher row = Pattern.compile("(?m)^\\| (\\w+Test) \\| ").matcher(page);
        while (row.find()) {
            told.add(row.group(1));
        }
        return told;
    }
}
