import java.lang.reflect.Constructor;
import java.lang.reflect.Method;
import java.lang.reflect.Modifier;
import java.util.Random;
import java.util.TreeSet;

/** The public face is the document's, and no call of it throws, whatever it is given. */
public final class AnythingTest {
    private static final String FACE = "as:2 at:3 become:2 body:1 check:0 count:1 feed:2 fits:2 glass:3 glassIs:2 hang:2 hour:1 "
        + "hours:1 image:0 judge:1 law:4 look:3 loose:1 move:5 odds:1 pay:2 person:2 personIs:2 put:3 restore:0 seed:1 "
        + "sees:1 sheet:3 spin:2 spins:3 stand:3 starts:2 tell:1 text:1 then:2 throwsOn:2 told:1 turnsOf:1 untell:1 voice:3";

    public static void main(String[] args) throws Exception {
        face();
        for (int seed = 0; seed < 300; seed++) {
            wild(new Random(seed));
        }
        Due.end();
    }

    private static void face() throws Exception {
        TreeSet<String> face = new TreeSet<>();
        for (Method m : GlassTax.class.getDeclaredMethods()) {
            boolean isOpen = !Modifier.isPrivate(m.getModifiers());
            if (isOpen && !m.isSynthetic()) {
                Due.is(m + " is public", Modifier.isPublic(m.getModifiers()) && !Modifier.isStatic(m.getModifiers()) ? 1 : 0, 1);
                Due.is(m + " answers an int", m.getReturnType() == int.class ? 1 : 0, 1);
                face.add(m.getName() + ":" + m.getParameterCount());
            }
        }
        StringBuilder all = new StringBuilder();
        for (String row : face) {
            all.append(row).append(' ');
        }
        System.out.println(all);
        Due.is("the face", all.toString().trim().equals(FACE) ? 1 : 0, 1);
        Due.is("rows", face.size(), 40);
        for (Constructor<?> c : GlassTax.class.getDeclaredConstructors()) {
            Due.is("constructor", c.getParameterCount() == 0 && Modifier.isPublic(c.getModifiers()) ? 1 : 0, 1);
        }
        Due.is("final", Modifier.isFinal(GlassTax.class.getModifiers()) ? 1 : 0, 1);
    }

    private static void wild(Random random) throws Exception {
        GlassTax x = new GlassTax();
        Method[] acts = GlassTax.class.getDeclaredMethods();
        java.util.Arrays.sort(acts, (a, b) -> a.getName().compareTo(b.getName()));
        for (int i = 0; i < 400; i++) {
            Method act = acts[random.nextInt(acts.length)];
            if (!Modifier.isPublic(act.getModifiers())) {
                continue;
            }
            Object[] given = new Object[act.getParameterCount()];
            for (int j = 0; j < given.length; j++) {
                int v = random.nextInt(5) == 0 ? Due.WILD[random.nextInt(4)] : random.nextInt(9) - 1;
                v = random.nextInt(3) == 0 ? random.nextInt(70) : v;
                given[j] = act.getParameterTypes()[j] == long.class ? (Object) random.nextLong() : (Object) v;
            }
            act.invoke(x, given);
        }
        Due.is("it stands", x.count(0) >= 0 && x.count(0) <= 8 && x.count(1) <= 6 && x.count(2) <= 9999 ? 1 : 0, 1);
    }
}
