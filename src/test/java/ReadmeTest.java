import java.io.File;
import java.io.IOException;
import java.lang.reflect.Method;
import java.lang.reflect.Modifier;
import java.net.URL;
import java.net.URLClassLoader;
import java.nio.charset.StandardCharsets;
import java.nio.file.Files;
import java.nio.file.Path;
import java.util.regex.Matcher;
import java.util.regex.Pattern;
import java.util.spi.ToolProvider;
import java.util.stream.Collectors;

/**
 * README.md as it stands: its example is compiled and run, with each number that it tells as the
 * answer that is due, and what it should name it names.
 */
public final class ReadmeTest {
    private static final Path PAGE = Path.of("README.md");
    private static final Path TESTS = Path.of("src/test/java");
    private static final int LEAST_ANSWERS = 8;
    private static final Pattern ANSWER = Pattern.compile("(form\\..*); +// (-?[0-9.]+): .*");

    private ReadmeTest() {
    }

    public static void main(String[] args) throws Exception {
        String page = Files.readString(PAGE, StandardCharsets.UTF_8);
        calls(page);
        tests(page);
        files(page);
        example(block(page, "java"));
        Check.end("ReadmeTest");
    }

    private static void has(String page, String text) {
        Check.same("README.md has " + text, "true", "" + page.contains(text));
    }

    /** The table has a row for each call, and as many parameters in it as the call takes. */
    private static void calls(String page) {
        int calls = 0;
        for (Method m : TickForms.class.getDeclaredMethods()) {
            if (Modifier.isPublic(m.getModifiers())) {
                calls++;
                String parameters = m.getParameterCount() == 0 ? ""
                    : "\\w+(, \\w+){" + (m.getParameterCount() - 1) + "}";
                Pattern row = Pattern.compile("(?m)^\\| `" + m.getName() + "\\(" + parameters
                    + "\\)` \\|");
                Check.same("a row for " + m.getName(), "true", "" + row.matcher(page).find());
            }
        }
        long rows = page.lines().filter(line -> line.startsWith("| `")).count();
        Check.due("rows of the table", calls, rows);
    }

    private static void tests(String page) throws IOException {
        has(page, "```sh\n.ci/run\n```");
        Check.same(".ci/run is there", "true", "" + Files.exists(Path.of(".ci/run")));
        for (String name : names(TESTS)) {
            if (name.endsWith("Test")) {
                has(page, "\n- `" + name + "`: ");
            }
        }
    }

    private static String[] names(Path directory) throws IOException {
        try (var files = Files.list(directory)) {
            return files.map(file -> file.getFileName().toString())
                .filter(name -> name.endsWith(".java"))
                .map(name -> name.substring(0, name.length() - ".java".length()))
                .sorted().toArray(String[]::new);
        }
    }

    /** Every path of the project that the page names is there. */
    private static void files(String page) {
        Matcher path = Pattern.compile("src/[\\w/.*]*\\w").matcher(page);
        while (path.find()) {
            String named = path.group().replaceAll("/\\*.*", "");
            Check.same(named + " is there", "true", "" + new File(named).exists());
        }
    }

    private static String block(String page, String language) {
        Matcher block = Pattern.compile("(?s)```" + language + "\n(.*?)```").matcher(page);
        boolean stands = block.find();
        Check.same("a block of " + language, "true", "" + stands);
        return stands ? block.group(1) : "";
    }

    private static void example(String code) throws Exception {
        String body = code.lines().map(ReadmeTest::asked).collect(Collectors.joining("\n"));
        long answers = code.lines().filter(line -> ANSWER.matcher(line).matches()).count();
        Check.same("the example tells answers", "true", "" + (answers >= LEAST_ANSWERS));
        Path directory = Files.createTempDirectory("readme");
        try {
            run(directory, "public final class Example { public static void run() {\n" + body
                + "\n} }\n");
        } finally {
            for (File file : directory.toFile().listFiles()) {
                Files.delete(file.toPath());
            }
            Files.delete(directory);
        }
    }

    /** A call with its answer behind it becomes a test of that answer; other lines stay. */
    private static String asked(String line) {
        Matcher answer = ANSWER.matcher(line);
        if (!answer.matches()) {
            return line;
        }
        String call = answer.group(1);
        return "ReadmeTest.due(\"" + call.replace("\"", "\\\"") + "\", \"" + answer.group(2)
            + "\", \"\" + (" + call + "));";
    }

    public static void due(String call, String want, String got) {
        Check.same("the example's " + call, want, got);
    }

    private static void run(Path directory, String source) throws Exception {
        Path file = Files.writeString(directory.resolve("Example.java"), source);
        ToolProvider javac = ToolProvider.findFirst("javac").orElseThrow();
        int failed = javac.run(System.out, System.out, "-cp",
            System.getProperty("java.class.path"), "-d", directory.toString(), file.toString());
        Check.due("the example compiles", 0, failed);
        if (failed == 0) {
            URL[] places = {directory.toUri().toURL()};
            try (URLClassLoader loader = new URLClassLoader(places)) {
                int before = Check.seen();
                loader.loadClass("Example").getMethod("run").invoke(null);
                Check.same("the example was run", "true", "" + (Check.seen() > before));
            }
        }
    }
}
