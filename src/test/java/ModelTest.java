import java.lang.reflect.Method;
import java.util.ArrayList;
import java.util.HashMap;
import java.util.List;
import java.util.Map;
import java.util.Random;

/** Runs of calls by draws (always the same), asked of GlassTax and of PlainModel. */
public final class ModelTest {
    private static final int RUNS = 1500;
    private static final int CALLS = 512;

    /** Each act and what its arguments are, from least to most; the ends of a range are drawn more often. */
    private static final String[] ACTS = {
        "glass 0:69 0:63 0:3", "glassIs 0:7 0:4", "throwsOn 0:7 0:3", "become 0:7 0:69", "as 0:7 0:6", "spin 0:7 0:3",
        "hang 0:7 0:63", "person 0:63 0:3", "personIs 0:5 0:3", "stand 0:5 0:63 0:3", "pay 0:5 0:99999", "hour 0:9999",
        "feed any 1:8", "text 0:1", "untell 0:1", "law 0:1 any any any", "hours 1:48", "loose 1:24", "seed any",
        "look 0:63 0:3 0:3", "at 0:63 0:3 0:12", "sees 0:5", "then 0:5 0:48", "starts 0:63 0:1", "spins 0:5 0:63 -1:3",
        "odds 0:1", "fits 0:3 0:1", "voice 0:7 0:3 any", "body 0:8", "sheet 0:3 bits 0:24", "put 0:3 0:23 any",
        "move 0:3 0:12 0:3 0:12 0:12", "turnsOf 0:3", "judge 0:3", "image", "restore", "tell 0:99", "check", "count 0:6",
        "told 1:6",
    };
    private static final String[] TEXTS = {
        "n*10+k", "m", "t", "t*2-h", "(n=1)*5+(k>2|m<3)*7", "!n+99%(m+1)", "t/(p-1)", "t*t*t", "n*n-k*m", "0-5", "12345",
        "((((((1))))))", "h<6|h>17", "t+", "1<2<3", "9999", "k", "p+1", "t>50&!(h=3)", "!!!!!m", "!!!!!!m", "1+(n", "3)",
        "1000-t", "n%2*m", "99",
    };
    private static final Map<String, Method> METHODS = new HashMap<>();

    private final Random random;
    private final GlassTax program = new GlassTax();
    private final PlainModel model = new PlainModel();
    private final List<String> calls = new ArrayList<>();
    private boolean isWrong;

    private ModelTest(long seed) {
        random = new Random(seed);
    }

    public static void main(String[] args) throws Exception {
        for (Method m : GlassTax.class.getDeclaredMethods()) {
            METHODS.put(m.getName(), m);
        }
        int wrong = 0;
        for (int run = 0; run < RUNS && wrong < 3; run++) {
            ModelTest test = new ModelTest(run);
            test.go();
            wrong += test.isWrong ? 1 : 0;
        }
        System.out.println(RUNS + " runs of " + CALLS + " calls, " + wrong + " wrong");
        if (wrong != 0) {
            System.exit(1);
        }
    }

    private void go() throws Exception {
        int glasses = random.nextInt(9);
        for (int i = 0; i < glasses; i++) {
            ask("glass", random.nextInt(70), random.nextInt(64), random.nextInt(4));
        }
        int people = random.nextInt(7);
        for (int i = 0; i < people; i++) {
            ask("person", random.nextInt(64), random.nextInt(4));
        }
        while (calls.size() < CALLS && !isWrong) {
            step();
        }
    }

    private void step() throws Exception {
        switch (random.nextInt(25)) {
            case 0:
                tellText();
                return;
            case 1:
                tellOwed();
                return;
            case 2:
                tellDue();
                return;
            case 3:
                tellCells();
                return;
            case 4:
                tellTurns();
                return;
            case 5:
                tellTrace();
                return;
            default:
                String[] act = ACTS[random.nextInt(ACTS.length)].split(" ");
                if (act[0].equals("become") && random.nextInt(3) > 0 || act[0].equals("feed") && random.nextInt(4) > 0) {
                    return;
                }
                long[] a = new long[act.length - 1];
                for (int i = 0; i < a.length; i++) {
                    a[i] = draw(act[i + 1]);
                }
                ask(act[0], a);
        }
    }

    private long draw(String range) {
        if (range.equals("any")) {
            return random.nextInt(3) == 0 ? random.nextInt() : random.nextInt(30) - 5;
        }
        if (range.equals("bits")) {
            return random.nextInt(12) == 0 ? 7 : 8L * new int[] {0, 1, 2, 4}[random.nextInt(4)];
        }
        int least = Integer.parseInt(range.split(":")[0]);
        int most = Integer.parseInt(range.split(":")[1]);
        switch (random.nextInt(60)) {
            case 0:
                return least - 1;
            case 1:
                return most + 1;
            case 2:
                return random.nextInt();
            case 3:
            case 4:
                return least;
            case 5:
                return most;
            default:
                return least + random.nextInt(most - least + 1);
        }
    }

    private void tellText() throws Exception {
        String text = TEXTS[random.nextInt(TEXTS.length)];
        for (int i = 0; i < text.length(); i += 8) {
            long word = random.nextLong();
            int many = Math.min(8, text.length() - i);
            for (int j = 0; j < many; j++) {
                word = word & ~(255L << 8 * j) | (long) text.charAt(i + j) << 8 * j;
            }
            ask("feed", word, many);
        }
        ask("text", random.nextInt(2));
    }

    private void tellOwed() throws Exception {
        int people = ask("count", 1);
        for (int i = 0; i < people; i++) {
            ask("tell", ask("personIs", i, 2) + (random.nextInt(8) == 0 ? 1 : 0));
        }
        ask("check");
    }

    private void tellDue() throws Exception {
        int sheet = random.nextInt(4);
        ask("sheet", sheet, 8L << random.nextInt(3), 8);
        int people = ask("count", 1);
        for (int i = 0; i < people; i++) {
            ask("put", sheet, i, ask("personIs", i, 3));
        }
        ask("judge", sheet);
    }

    private void tellCells() throws Exception {
        int sheet = random.nextInt(4);
        int cell = random.nextInt(64);
        int way = random.nextInt(4);
        int many = random.nextInt(6);
        ask("sheet", sheet, 8L << random.nextInt(3), many);
        for (int i = 0; i < many; i++) {
            ask("put", sheet, i, ask("at", cell, way, i));
        }
        ask("fits", sheet, 0);
        ask("fits", sheet, 1);
    }

    private void tellTurns() throws Exception {
        int sheet = random.nextInt(4);
        int many = random.nextInt(10);
        ask("sheet", sheet, 8L << random.nextInt(3), many);
        for (int i = 0; i < many; i++) {
            ask("put", sheet, i, random.nextInt(20) == 0 ? 4 : random.nextInt(4));
        }
        ask("turnsOf", sheet);
    }

    /** A voice(), which is PARTED in half of the runs, and THE TRACE. */
    private void tellTrace() throws Exception {
        int glass = random.nextInt(8);
        boolean isToPart = random.nextBoolean();
        if (isToPart) {
            ask("become", glass, 10 * random.nextInt(7) + glass);
        }
        ask("voice", glass, isToPart ? 3 : random.nextInt(4), random.nextInt());
        int many = ask("count", 5);
        for (int i = 0; i <= many; i++) {
            ask("body", i);
        }
    }

    /** What a call answers; none is asked behind the last that an object may have, and 0 is said for it. */
    private int ask(String act, long... a) throws Exception {
        if (calls.size() >= CALLS) {
            return 0;
        }
        Object[] given = new Object[a.length];
        for (int i = 0; i < a.length; i++) {
            given[i] = act.equals("feed") && i == 0 ? (Object) Long.valueOf(a[i]) : (Object) Integer.valueOf((int) a[i]);
        }
        int got = (Integer) METHODS.get(act).invoke(program, given);
        int want = model.answer(act, a);
        calls.add(act + java.util.Arrays.toString(a) + " " + got);
        if (got != want && !isWrong) {
            isWrong = true;
            System.out.println(String.join("\n", calls) + "\n due is " + want);
        }
        return got;
    }
}
