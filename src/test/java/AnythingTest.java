import java.lang.reflect.Method;
import java.lang.reflect.Modifier;
import java.util.Random;

/** No call throws, whatever it is given, and however often it is asked. */
public final class AnythingTest {
    /** More than the 512 for which an answer is due: no call may throw in any state. */
    private static final int CALLS = 1200;

    public static void main(String[] args) throws Exception {
        for (int seed = 0; seed < 300; seed++) {
            wild(new Random(seed));
        }
        Due.end();
    }

    private static void wild(Random random) throws Exception {
        GlassTax x = new GlassTax();
        Method[] acts = GlassTax.class.getDeclaredMethods();
        java.util.Arrays.sort(acts, (a, b) -> a.getName().compareTo(b.getName()));
        for (int i = 0; i < CALLS; i++) {
            Method act = acts[random.nextInt(acts.length)];
            if (!Modifier.isPublic(act.getModifiers())) {
                continue;
            }
            Object[] given = new Object[act.getParameterCount()];
            for (int j = 0; j < given.length; j++) {
                int v = random.nextInt(5) == 0 ? Due.WILD[random.nextInt(4)] : random.nextInt(9) - 1;
                v = random.nextInt(3) == 0 ? random.nextInt(70) : v;
                given[j] = act.getParameterTypes()[j] == long.class ? (Object) random.nextLong() : (Object) v;
            }
            act.invoke(x, given);
        }
        Due.is("it stands", x.count(0) >= 0 && x.count(0) <= 8 && x.count(1) <= 6 && x.count(2) <= 9999 ? 1 : 0, 1);
    }
}
