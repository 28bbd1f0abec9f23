import java.lang.management.ManagementFactory;
import java.lang.reflect.Field;
import java.lang.reflect.Method;
import java.lang.reflect.Modifier;
import java.nio.charset.StandardCharsets;
import java.nio.file.Files;
import java.nio.file.Path;
import java.util.ArrayList;
import java.util.HashSet;
import java.util.List;
import java.util.Set;
import java.util.regex.Matcher;
import java.util.regex.Pattern;

/** What of ../shared/LANGUAGE.md can be seen from the source, the classes and the room that a run takes. */
public final class LanguageTest {
    private static final String SOURCE = "src/main/java/GlassTax.java";
    private static final String[] BARRED = {
        "throw", "throws", "try", "catch", "finally", "synchronized", "assert", "instanceof", "volatile", "transient",
        "native", "package", "while", "Object", "Random", "System\\.(?!arraycopy)\\w+", "\\w+Exact", "->", "::",
        "@\\w+", "NaN", "equals", "hashCode", "toString",
    };

    public static void main(String[] args) throws Exception {
        String source = new String(Files.readAllBytes(Path.of(SOURCE)), StandardCharsets.UTF_8);
        String code = source.replaceAll("(?s)/\\*.*?\\*/", "").replaceAll("//[^\n]*", "").replaceAll("\"[^\"\n]*\"", "\"\"");
        words(code);
        headings(source);
        methodsAreShort(code);
        classes();
        room();
        Due.end();
    }

    private static void words(String code) {
        for (String barred : BARRED) {
            Matcher m = Pattern.compile("(?<!\\w)" + barred + "(?!\\w)").matcher(code);
            Due.is("barred: " + barred, m.find() ? 1 : 0, 0);
        }
        Matcher imports = Pattern.compile("import [^;]*;").matcher(code);
        while (imports.find()) {
            Due.is(imports.group(), imports.group().equals("import java.util.Arrays;") ? 1 : 0, 1);
        }
        Due.is("signs above 126", code.chars().filter(c -> c > 126 || c == '\t').count(), 0);
    }

    /** "Ahead of the calls .. the interface says: ..": the same comments stand ahead of the same calls in the source. */
    private static void headings(String source) throws Exception {
        String document = new String(Files.readAllBytes(Path.of("../shared/DOC.md")), StandardCharsets.UTF_8);
        Matcher m = Pattern.compile("Ahead of the calls (.*) the interface says: (.*)\\.\n").matcher(document);
        int found = 0;
        while (m.find()) {
            found++;
            int from = source.indexOf("    // " + m.group(2) + "\n");
            int to = source.indexOf("    // ----", from + 1);
            Due.is("there is the comment " + m.group(2), from >= 0 && to > from ? 1 : 0, 1);
            StringBuilder calls = new StringBuilder();
            Matcher call = Pattern.compile("public int (\\w+)\\(").matcher(from < 0 || to < from ? "" : source.substring(from, to));
            while (call.find()) {
                calls.append(calls.length() == 0 ? "`" : ", `").append(call.group(1)).append('`');
            }
            Due.isText("calls behind " + m.group(2), calls.toString(), m.group(1));
        }
        Due.is("comments", found, 5);
    }

    private static void methodsAreShort(String code) {
        String[] lines = code.split("\n");
        int begun = -1;
        String end = "";
        for (int i = 0; i < lines.length; i++) {
            Matcher m = Pattern.compile("^( +)[\\w\\[\\] ]+\\([^;]*\\) \\{$").matcher(lines[i]);
            if (begun < 0 && m.find() && !lines[i].trim().matches("(if|for|switch|\\} else).*")) {
                begun = i;
                end = m.group(1) + "}";
            } else if (begun >= 0 && lines[i].equals(end)) {
                Due.is("lines of " + lines[begun].trim(), i - begun + 1 <= 60 ? 1 : 0, 1);
                begun = -1;
            }
        }
    }

    private static void classes() {
        List<Class<?>> all = new ArrayList<>(List.of(GlassTax.class.getDeclaredClasses()));
        Set<String> face = new HashSet<>();
        for (Method m : GlassTax.class.getDeclaredMethods()) {
            if (Modifier.isPublic(m.getModifiers())) {
                face.add(m.getName());
            }
        }
        all.add(GlassTax.class);
        Due.is("classes", all.size() <= 12 ? 1 : 0, 1);
        for (Class<?> c : all) {
            Due.is(c + " is static", c == GlassTax.class || Modifier.isStatic(c.getModifiers()) ? 1 : 0, 1);
            int fields = 0;
            for (Field f : c.getDeclaredFields()) {
                boolean isStatic = Modifier.isStatic(f.getModifiers());
                fields += isStatic ? 0 : 1;
                Due.is(f + " is final", !isStatic || Modifier.isFinal(f.getModifiers()) ? 1 : 0, 1);
                Due.is(f + " is private", c != GlassTax.class || Modifier.isPrivate(f.getModifiers()) ? 1 : 0, 1);
            }
            Due.is("fields of " + c, fields <= 20 ? 1 : 0, 1);
            for (Method m : c.getDeclaredMethods()) {
                boolean isFace = c == GlassTax.class && Modifier.isPublic(m.getModifiers());
                Due.is(m + " bears a name of the face", !isFace && face.contains(m.getName()) ? 1 : 0, 0);
                Due.is(m + " takes at most 7", m.getParameterCount() <= 7 ? 1 : 0, 1);
            }
        }
    }

    /** Calls make nothing: what a run takes of the room is what its constructor made. */
    private static void room() {
        com.sun.management.ThreadMXBean threads = (com.sun.management.ThreadMXBean) ManagementFactory.getThreadMXBean();
        long id = Thread.currentThread().getId();
        GlassTax warm = new GlassTax();
        dear(warm, 4);
        threads.getThreadAllocatedBytes(id);
        long before = threads.getThreadAllocatedBytes(id);
        GlassTax x = new GlassTax();
        long made = threads.getThreadAllocatedBytes(id);
        dear(x, 50);
        long called = threads.getThreadAllocatedBytes(id);
        System.out.println("bytes of a new object: " + (made - before) + ", of 500 calls: " + (called - made));
        Due.is("a new object", made - before < 20000 ? 1 : 0, 1);
        Due.is("500 calls", called - made < 5000 ? 1 : 0, 1);
    }

    private static void dear(GlassTax x, int times) {
        for (int i = 0; i < 8; i++) {
            x.glass(10 * (i % 7) + i, 7 * i + 3, i % 4);
        }
        for (int i = 0; i < 6; i++) {
            x.person(9 * i, i % 4);
        }
        x.sheet(0, 8, 24);
        for (int i = 0; i < times; i++) {
            x.feed('n', 1);
            x.text(0);
            x.image();
            x.then(i % 6, 48);
            x.spins(i % 6, 63 - i, -1);
            x.starts(i, 0);
            x.fits(0, 0);
            x.odds(0);
            x.voice(4, 2, i);
            x.restore();
        }
    }
}
