import java.lang.reflect.Method;
import java.util.HashMap;
import java.util.Map;

/** One object that is asked by the names of calls, as "glass 35 3 2", and how often it was. */
final class Run {
    /** An object is used for at most so many calls. */
    static final int MOST_CALLS = 512;
    private static final Map<String, Method> ACTS = new HashMap<>();
    private final GlassTax x = new GlassTax();
    private int calls;

    Run(String... begins) {
        for (String call : begins) {
            ask(call);
        }
    }

    int ask(String call) {
        calls++;
        String[] words = call.split(" ");
        Method act = act(words[0]);
        Object[] given = new Object[words.length - 1];
        for (int i = 0; i < given.length; i++) {
            boolean isLong = act.getParameterTypes()[i] == long.class;
            given[i] = isLong ? (Object) Long.valueOf(words[i + 1]) : (Object) Integer.valueOf(words[i + 1]);
        }
        try {
            return (Integer) act.invoke(x, given);
        } catch (ReflectiveOperationException e) {
            throw new IllegalStateException(call, e);
        }
    }

    int calls() {
        return calls;
    }

    private static Method act(String name) {
        if (ACTS.isEmpty()) {
            for (Method m : GlassTax.class.getMethods()) {
                ACTS.put(m.getName(), m);
            }
        }
        return ACTS.get(name);
    }
}
