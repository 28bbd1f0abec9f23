import java.lang.reflect.Constructor;
import java.lang.reflect.Field;
import java.lang.reflect.Method;
import java.lang.reflect.Modifier;
import java.nio.charset.StandardCharsets;
import java.nio.file.Files;
import java.nio.file.Path;
import java.util.ArrayList;
import java.util.List;
import java.util.TreeSet;

/** 'The public face', line by line: the source has it, the class has nothing else, and each promise repeats it. */
public final class FaceTest {
    public static void main(String[] args) throws Exception {
        List<String> face = face();
        Due.is("the constructor and 40 calls", face.size(), 1 + 40);
        inTheSource(face);
        inTheClass(face);
        aheadOfPromises(face);
        Due.end();
    }

    /** The lines within the face's class, without their ends. */
    private static List<String> face() {
        String all = Doc.all();
        String from = all.substring(all.indexOf("## The public face\n"));
        List<String> face = new ArrayList<>();
        for (String line : from.substring(0, from.indexOf("\n## ")).split("\n")) {
            if (line.startsWith("    ") && line.endsWith(";")) {
                face.add(line.trim().substring(0, line.trim().length() - 1));
            }
        }
        return face;
    }

    private static void inTheSource(List<String> face) throws Exception {
        String source = new String(Files.readAllBytes(Path.of("src/main/java/GlassTax.java")), StandardCharsets.UTF_8);
        int from = source.indexOf("public final class GlassTax {");
        Due.isTrue("a public and final class", from >= 0);
        for (String line : face) {
            int at = source.indexOf("\n    " + line + " {\n", from);
            Due.isTrue("the source has, in this order: " + line, at >= from);
            from = Math.max(from, at);
        }
    }

    private static void inTheClass(List<String> face) {
        TreeSet<String> due = new TreeSet<>();
        for (String line : face) {
            due.add(line.replaceAll(" \\w+(?=[,)])", ""));
        }
        TreeSet<String> open = new TreeSet<>();
        for (Method m : GlassTax.class.getDeclaredMethods()) {
            if (!Modifier.isPrivate(m.getModifiers()) && !m.isSynthetic()) {
                String head = Modifier.toString(m.getModifiers()) + " " + m.getReturnType() + " " + m.getName();
                open.add(head + types(m.getParameterTypes()));
            }
        }
        for (Constructor<?> c : GlassTax.class.getDeclaredConstructors()) {
            open.add(Modifier.toString(c.getModifiers()) + " GlassTax" + types(c.getParameterTypes()));
        }
        Due.isText("what isn't private", open.toString(), due.toString());
        for (Field f : GlassTax.class.getDeclaredFields()) {
            Due.isTrue(f + " is private", Modifier.isPrivate(f.getModifiers()) || f.isSynthetic());
        }
    }

    private static String types(Class<?>[] types) {
        StringBuilder text = new StringBuilder("(");
        for (Class<?> type : types) {
            text.append(text.length() > 1 ? ", " : "").append(type.getName());
        }
        return text.append(')').toString();
    }

    /** "`int glass(int km, int cell, int turn)`: .." under each promise is the face's line, in the face's order. */
    private static void aheadOfPromises(List<String> face) {
        String all = Doc.all();
        for (int i = 0; i < face.size() && i < Doc.PROMISES; i++) {
            String from = all.substring(all.indexOf("## Promise " + (i + 1) + ":"));
            String call = from.substring(from.indexOf('`') + 1, from.indexOf("`:"));
            Due.isText("promise " + (i + 1), "public " + call, face.get(i));
        }
    }
}
