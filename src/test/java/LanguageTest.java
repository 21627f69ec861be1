import java.io.IOException;
import java.lang.reflect.Constructor;
import java.lang.reflect.Field;
import java.lang.reflect.Method;
import java.lang.reflect.Modifier;
import java.nio.charset.StandardCharsets;
import java.nio.file.Files;
import java.nio.file.Path;
import java.util.ArrayList;
import java.util.Arrays;
import java.util.List;
import java.util.Map;
import java.util.Set;
import java.util.TreeMap;
import java.util.TreeSet;
import java.util.regex.Matcher;
import java.util.regex.Pattern;
import java.util.stream.Collectors;

/** The face of the class, and those rules of LANGUAGE.md that can be seen from its text. */
public final class LanguageTest {
    private static final String INDEX = "IndexOutOfBoundsException";
    private static final String ARGUMENT = "IllegalArgumentException";
    private static final String STATE = "IllegalStateException";
    private static final String SOURCE = "src/main/java/TickForms.java";

    private LanguageTest() {
    }

    public static void main(String[] args) throws IOException {
        face();
        hidden();
        String code = code(Files.readString(Path.of(SOURCE), StandardCharsets.ISO_8859_1));
        words(code);
        methods(code);
        classes();
        Check.end("LanguageTest");
    }

    private static String line(String returns, String name, int ints, String... thrown) {
        return returns + " " + name + " " + ints + " " + Arrays.toString(thrown);
    }

    private static void face() {
        Set<String> want = new TreeSet<>(List.of(
            line("int", "comb", 2, INDEX, ARGUMENT, STATE),
            line("int", "tick", 2, INDEX, ARGUMENT, STATE),
            line("int", "skip", 3, INDEX, ARGUMENT, STATE),
            line("int", "total", 2, INDEX, ARGUMENT, STATE),
            line("int", "drop", 0, STATE),
            line("int", "answer", 2, INDEX, ARGUMENT),
            line("int", "clear", 0),
            line("int", "append", 1, ARGUMENT, STATE),
            line("int", "clearBuffer", 0),
            line("int", "firstError", 0),
            line("int", "fill", 0, ARGUMENT),
            line("int", "undo", 0, STATE),
            line("int", "box", 2, INDEX, ARGUMENT),
            line("int", "part", 2, INDEX, ARGUMENT),
            line("int", "count", 1, ARGUMENT),
            line("int", "ifAnswered", 3, INDEX, ARGUMENT),
            line("int", "shortest", 0),
            line("int", "mostCarried", 0),
            line("double", "filled", 0),
            line("long", "digest", 0)));
        Set<String> got = new TreeSet<>();
        for (Method m : TickForms.class.getDeclaredMethods()) {
            if (!Modifier.isPrivate(m.getModifiers())) {
                boolean ints = Arrays.stream(m.getParameterTypes()).allMatch(t -> t == int.class);
                Check.same(m.getName() + " takes ints", "true", "" + ints);
                Check.due(m.getName() + " is public alone", Modifier.PUBLIC, m.getModifiers());
                String[] thrown = Arrays.stream(m.getExceptionTypes()).map(Class::getSimpleName)
                    .toArray(String[]::new);
                got.add(line(m.getReturnType().getName(), m.getName(), m.getParameterCount(),
                    thrown));
            }
        }
        Check.same("the methods of the face", want.toString(), got.toString());
    }

    private static void hidden() {
        Class<?> it = TickForms.class;
        Check.same("no package", "TickForms", it.getName());
        Check.due("public and final", Modifier.PUBLIC | Modifier.FINAL, it.getModifiers());
        Constructor<?>[] made = it.getDeclaredConstructors();
        Check.due("one constructor", 1, made.length);
        Check.due("without arguments", 0, made[0].getParameterCount());
        Check.due("that is public", Modifier.PUBLIC, made[0].getModifiers());
        Set<String> names = Arrays.stream(it.getDeclaredMethods())
            .filter(m -> Modifier.isPublic(m.getModifiers())).map(Method::getName)
            .collect(Collectors.toSet());
        for (Field f : it.getDeclaredFields()) {
            boolean hidden = Modifier.isPrivate(f.getModifiers()) || f.getName().equals("NONE");
            Check.same("hidden: " + f.getName(), "true", "" + hidden);
            Check.same("final: " + f.getName(), "true", "" + Modifier.isFinal(f.getModifiers()));
        }
        for (Class<?> inner : it.getDeclaredClasses()) {
            Check.same("static: " + inner, "true", "" + Modifier.isStatic(inner.getModifiers()));
            for (Method m : inner.getDeclaredMethods()) {
                Check.same("no name of the face: " + m, "false", "" + names.contains(m.getName()));
            }
        }
        for (Method m : it.getDeclaredMethods()) {
            boolean twice = Modifier.isPrivate(m.getModifiers()) && names.contains(m.getName());
            Check.same("no name of the face: " + m, "false", "" + twice);
        }
    }

    private static String code(String source) {
        return source.replaceAll("(?s)/\\*.*?\\*/", "").replaceAll("//[^\n]*", "");
    }

    private static void words(String code) {
        Check.same("signs", "true", "" + code.chars().allMatch(c -> c == '\n' || c > 31 && c < 127));
        for (String word : new String[] {"import", "package", "try", "catch", "finally",
            "synchronized", "assert", "instanceof", "protected", "native", "volatile", "Double",
            "System", "String", "Object", "->", "::"}) {
            boolean stands = Pattern.compile("(?<!\\w)" + word + "(?!\\w)").matcher(code).find();
            Check.same("the word " + word, "false", "" + stands);
        }
        Check.same("Exact", "false", "" + code.contains("Exact"));
        Matcher thrown = Pattern.compile("throw [^;]*;").matcher(code);
        while (thrown.find()) {
            boolean plain = thrown.group().matches(
                "throw new (" + INDEX + "|" + ARGUMENT + "|" + STATE + ")\\(\"[a-z ]*\"\\);");
            Check.same(thrown.group(), "true", "" + plain);
        }
        Set<String> indexes = new TreeSet<>();
        Matcher index = Pattern.compile("(\\w+ )?\\w+\\[\\w+\\]").matcher(code);
        while (index.find()) {
            indexes.add(index.group().replaceAll("^(return|[^n]\\w*) ", "").trim());
        }
        Check.same("indexes, lengths", "[new Form[MOST_SAVED], new int[MOST_BOXES], "
            + "new int[MOST_SIGNS], row[index], states[i], states[index]]", indexes.toString());
    }

    // ---- rules 5, 6, 8 and 11: how long, how deep, how many

    /** Methods by name: those that bear one name count as one, which can only tell too much. */
    private static void methods(String code) {
        Map<String, Set<String>> calls = new TreeMap<>();
        Map<String, String> bodies = new TreeMap<>();
        Matcher method = Pattern.compile("(?ms)^( {4}| {8})((?:public|private) [^=;{}]*?(\\w+)"
            + "\\(([^)]*)\\)[^;{}]*\\{.*?^\\1\\})").matcher(code);
        while (method.find()) {
            String name = method.group(3);
            Check.same(name + " is short", "true", "" + (method.group(2).lines().count() <= 60));
            Check.same(name + " has few parameters", "true",
                "" + (method.group(4).split(",").length <= 7));
            String body = method.group(2).substring(method.group(2).indexOf('{'));
            bodies.merge(name, body, String::concat);
            boolean made = method.group(2).matches("(?s)(public |private )" + name + "\\(.*");
            Check.same(name + " is a constructor with a throw", "false",
                "" + (made && body.contains("throw ")));
        }
        for (String name : bodies.keySet()) {
            Set<String> called = new TreeSet<>();
            Matcher call = Pattern.compile("(Math\\.|Integer\\.|new )?(\\w+)\\(")
                .matcher(bodies.get(name));
            while (call.find()) {
                if (call.group(1) == null && bodies.containsKey(call.group(2))) {
                    called.add(call.group(2));
                }
            }
            calls.put(name, called);
        }
        Check.same("the methods were found", "true", "" + calls.keySet().containsAll(
            List.of("digest", "shortest", "openParts", "stateAfter", "restore")));
        for (String name : calls.keySet()) {
            Check.same(name + " goes at most eight calls deep", "true",
                "" + (depth(calls, name, 0) <= 8));
        }
    }

    /** A method that calls itself, by whatever way, is deeper than any bound. */
    private static int depth(Map<String, Set<String>> calls, String name, int above) {
        if (above > 8) {
            return 0;
        }
        int below = 0;
        for (String called : calls.get(name)) {
            below = Math.max(below, depth(calls, called, above + 1));
        }
        return below + 1;
    }

    private static void classes() {
        Class<?>[] inner = TickForms.class.getDeclaredClasses();
        Check.same("few classes", "true", "" + (inner.length + 1 <= 12));
        List<Class<?>> all = new ArrayList<>(List.of(inner));
        all.add(TickForms.class);
        for (Class<?> it : all) {
            long fields = Arrays.stream(it.getDeclaredFields())
                .filter(f -> !Modifier.isStatic(f.getModifiers())).count();
            Check.same("few fields in " + it, "true", "" + (fields <= 20));
            for (Field f : it.getDeclaredFields()) {
                boolean kept = !Modifier.isStatic(f.getModifiers())
                    || Modifier.isFinal(f.getModifiers());
                Check.same("no static state: " + f, "true", "" + kept);
            }
        }
    }
}
