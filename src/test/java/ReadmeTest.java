import java.lang.reflect.Method;
import java.lang.reflect.Modifier;
import java.nio.charset.StandardCharsets;
import java.nio.file.Files;
import java.nio.file.Path;
import java.util.List;
import java.util.TreeSet;
import java.util.regex.Matcher;
import java.util.regex.Pattern;
import java.util.stream.Collectors;
import java.util.stream.Stream;

/** What README.md says is so: its examples answer as it tells, and it names each call, each class, and each test. */
public final class ReadmeTest {
    private static final Path TESTS = Path.of("src/test/java");
    private static final Pattern CALL = Pattern.compile("x\\.(\\w+)\\(([^)]*)\\); +// (-?\\d+)(: .*)?");
    private static final String NEW = "GlassTax x = new GlassTax();";
    private static final String[] ERRORS = {"BEYOND", "NONE", "STATE", "FULL", "KIND", "PARTED"};

    public static void main(String[] args) throws Exception {
        String page = new String(Files.readAllBytes(Path.of("README.md")), StandardCharsets.UTF_8);
        examples(page);
        errors(page);
        calls(page);
        classes(page);
        tests(page);
        Due.end();
    }

    private static void examples(String page) {
        Matcher block = Pattern.compile("(?s)```java\n(.*?)```").matcher(page);
        int asked = 0;
        while (block.find()) {
            Run run = null;
            for (String line : block.group(1).split("\n")) {
                Matcher call = CALL.matcher(line);
                if (line.equals(NEW)) {
                    run = new Run();
                } else if (run != null && call.matches()) {
                    Due.is(line, run.ask(words(call.group(1), call.group(2))), Long.parseLong(call.group(3)));
                    asked++;
                } else {
                    Due.isTrue("a call with its answer: " + line, false);
                }
            }
        }
        Due.isTrue("there are examples", asked > 30);
    }

    private static String words(String name, String given) {
        StringBuilder words = new StringBuilder(name);
        for (String number : given.split(", ")) {
            words.append(number.isEmpty() ? "" : " " + Long.decode(number.replace("L", "")));
        }
        return words.toString();
    }

    private static void errors(String page) {
        for (int i = 0; i < ERRORS.length; i++) {
            Due.isTrue("the error " + ERRORS[i], page.contains("| " + (-1000000001L - i) + " | " + ERRORS[i] + " |"));
        }
    }

    /** The table of calls names each one once. */
    private static void calls(String page) {
        TreeSet<String> due = new TreeSet<>();
        for (Method m : GlassTax.class.getDeclaredMethods()) {
            if (Modifier.isPublic(m.getModifiers())) {
                due.add(m.getName());
            }
        }
        Due.isText("the table of calls", named(page, "| for | calls |").toString(), due.toString());
    }

    private static void classes(String page) {
        TreeSet<String> due = new TreeSet<>(List.of("GlassTax"));
        for (Class<?> c : GlassTax.class.getDeclaredClasses()) {
            due.add(c.getSimpleName());
        }
        Due.isText("the table of classes", named(page, "| class | what it holds |").toString(), due.toString());
    }

    private static void tests(String page) throws Exception {
        TreeSet<String> all;
        try (Stream<Path> files = Files.list(TESTS)) {
            all = files.map(f -> f.getFileName().toString().replace(".java", "")).collect(Collectors.toCollection(TreeSet::new));
        }
        TreeSet<String> due = new TreeSet<>(all);
        due.removeIf(name -> !name.endsWith("Test"));
        TreeSet<String> named = named(page, "| test | promises |");
        named.remove("PlainModel");
        Due.isText("the table of tests", named.toString(), due.toString());
        for (String name : all) {
            Due.isTrue("the page names " + name, page.contains("`" + name + "`"));
        }
        for (String name : named(page, "| class | promises |")) {
            Due.isTrue("there is a class " + name, all.contains(name));
        }
    }

    /** The names in `..` of a table with this head, each of which may stand there once only. */
    private static TreeSet<String> named(String page, String head) {
        TreeSet<String> names = new TreeSet<>();
        int from = page.indexOf(head);
        Due.isTrue("there is a table " + head, from >= 0);
        // A table ends at an empty line, or with the page.
        String table = from < 0 ? "" : page.substring(from).split("\n\n")[0];
        Matcher name = Pattern.compile("`(\\w+)`").matcher(table);
        while (name.find()) {
            Due.isTrue(name.group(1) + " stands once in " + head, names.add(name.group(1)));
        }
        return names;
    }
}
