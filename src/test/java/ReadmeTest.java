import java.io.IOException;
import java.lang.invoke.MethodHandles;
import java.lang.reflect.Field;
import java.lang.reflect.Method;
import java.lang.reflect.Modifier;
import java.nio.charset.StandardCharsets;
import java.nio.file.DirectoryStream;
import java.nio.file.Files;
import java.nio.file.Path;
import java.util.Comparator;
import java.util.List;
import java.util.regex.Matcher;
import java.util.regex.Pattern;
import java.util.stream.Stream;
import javax.tools.ToolProvider;

/** README.md: its example compiles and is answered as it says; it names all that it should. */
public final class ReadmeTest {
    private static final Check CHECK = new Check("ReadmeTest");
    private static final Pattern EXAMPLE = Pattern.compile("(?s)```java\n(.*?)```");
    private static final Pattern ANSWERED =
        Pattern.compile("(?m)^(x\\.\\w+\\([^;\n]*\\));\\s*// (-?\\d+)\\b.*$");
    private static final Pattern CALL_ALONE = Pattern.compile("(?m)^x\\.");
    private static final Pattern TEXT_WITH_FAULT =
        Pattern.compile("`(\\S+)` (?:is answered )?by\\s+(-\\d+)");

    public static void main(String[] args) throws Exception {
        String readme = Files.readString(Path.of("README.md"), StandardCharsets.UTF_8);
        example(readme);
        calls(readme);
        constants(readme);
        faults(readme);
        tests(readme);
        CHECK.end();
    }

    private static void example(String readme) throws Exception {
        Matcher block = EXAMPLE.matcher(readme);
        if (!block.find()) {
            CHECK.holds("there is an example", false);
            return;
        }
        String example = block.group(1);
        Matcher answered = ANSWERED.matcher(example);
        int answers = 0;
        while (answered.find()) {
            answers++;
        }
        Matcher alone = CALL_ALONE.matcher(example);
        int calls = 0;
        while (alone.find()) {
            calls++;
        }
        CHECK.due("calls of the example that tell an answer", answers, calls);
        runs(ANSWERED.matcher(example).replaceAll("check.due(\"the example's $1\", $1, $2);"));
    }

    /** The example as a program, whose calls are asked for the answers that stand behind them. */
    private static void runs(String example) throws Exception {
        Path directory = Files.createTempDirectory("readme");
        try {
            Path program = directory.resolve("ReadmeExample.java");
            Files.writeString(program, "final class ReadmeExample {\n"
                + "static void run(Check check) {\n" + example + "}\n}\n", StandardCharsets.UTF_8);
            int code = ToolProvider.getSystemJavaCompiler().run(null, System.out, System.out,
                "-encoding", "UTF-8", "-cp", System.getProperty("java.class.path"),
                "-d", directory.toString(), program.toString());
            CHECK.due("javac of the example", code, 0);
            if (code == 0) {
                // By the loader of this test: Check is seen in its own package alone.
                byte[] compiled = Files.readAllBytes(directory.resolve("ReadmeExample.class"));
                Class<?> one = MethodHandles.lookup().defineClass(compiled);
                Method run = one.getDeclaredMethod("run", Check.class);
                run.invoke(null, CHECK);
            }
        } finally {
            remove(directory);
        }
    }

    private static void remove(Path directory) throws IOException {
        try (Stream<Path> all = Files.walk(directory)) {
            List<Path> deepestFirst = all.sorted(Comparator.reverseOrder()).toList();
            for (Path one : deepestFirst) {
                Files.delete(one);
            }
        }
    }

    private static void calls(String readme) {
        for (Method method : LeafTurner.class.getDeclaredMethods()) {
            if (!Modifier.isPublic(method.getModifiers())) {
                continue;
            }
            int parameters = method.getParameterCount();
            String inside = parameters == 0 ? "" : "\\w+" + ", \\w+".repeat(parameters - 1);
            Pattern row = Pattern.compile("(?m)^\\| `" + method.getName() + "\\(" + inside + "\\)` \\|");
            CHECK.holds("a row for " + method.getName(), row.matcher(readme).find());
        }
    }

    private static void constants(String readme) throws IllegalAccessException {
        for (Field field : LeafTurner.class.getFields()) {
            String row = "\n| " + field.getInt(null) + " | `" + field.getName() + "` |";
            CHECK.holds("a row for " + field.getName(), readme.contains(row));
        }
    }

    private static void faults(String readme) {
        Matcher fault = TEXT_WITH_FAULT.matcher(readme);
        int faults = 0;
        while (fault.find()) {
            CHECK.due("takeBook() of " + fault.group(1), Check.taken(fault.group(1)),
                Integer.parseInt(fault.group(2)));
            faults++;
        }
        CHECK.due("texts with faults", faults, 2);
        CHECK.holds("the empty text", readme.contains("the empty text by " + Check.taken("")));
    }

    private static void tests(String readme) throws IOException {
        try (DirectoryStream<Path> files =
                Files.newDirectoryStream(Path.of("src/test/java"), "*Test.java")) {
            for (Path file : files) {
                String name = file.getFileName().toString().replace(".java", "");
                CHECK.holds("a row for " + name, readme.contains("\n| `" + name + "` |"));
            }
        }
    }
}
