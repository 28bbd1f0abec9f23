import java.util.ArrayList;
import java.util.List;

/**
 * The document once more, in another manner and with the whole Java library: lists, strings, exceptions, and a class
 * for each KIND. ModelTest asks both the same. The acts bear the names and arguments of GlassTax.
 */
public final class PlainModel {
    private static final int LOW = -1000000000;
    private static final String[] BY_TURN = {"1032", "3210", "0321", "2103"};
    private static final int[] ABOVE = {-1, 0, 0, 0, 1, 2, 0};

    /** An ERROR on its way out. */
    private static final class Wrong extends RuntimeException {
        private static final long serialVersionUID = 1L;
        final int k;

        Wrong(int k) {
            super(null, null, false, false);
            this.k = k;
        }
    }

    private static final class State {
        List<int[]> glasses = new ArrayList<>();
        List<int[]> people = new ArrayList<>();
        String[] texts = new String[2];
        StringBuilder tape = new StringBuilder();
        List<Integer> waiting = new ArrayList<>();
        int hour;
        int z = 1;

        State copy() {
            State s = new State();
            glasses.forEach(g -> s.glasses.add(g.clone()));
            people.forEach(p -> s.people.add(p.clone()));
            s.texts = texts.clone();
            s.tape = new StringBuilder(tape);
            s.waiting = new ArrayList<>(waiting);
            s.hour = hour;
            s.z = z;
            return s;
        }
    }

    private static final class Beam {
        List<Integer> cells = new ArrayList<>();
        List<Integer> met = new ArrayList<>();
        boolean ever;
    }

    private State s = new State();
    private State image;
    private int images;
    private final int[] errors = new int[7];
    private List<Integer> trace = new ArrayList<>();
    private final Object[] sheets = new Object[4];

    /** Does an act by its name, and turns its ERROR into an answer. */
    public int answer(String act, long[] a) {
        try {
            return act(act, a);
        } catch (Wrong w) {
            errors[w.k]++;
            return LOW - w.k;
        }
    }

    private int act(String act, long[] l) {
        int[] a = new int[5];
        for (int i = 0; i < l.length; i++) {
            a[i] = (int) l[i];
        }
        switch (act) {
            case "glass": return glass(a[0], a[1], a[2]);
            case "glassIs": return glassAt(a[0])[range(a[1], 0, 4)];
            case "throwsOn": return onward(s, glassAt(a[0]), range(a[1], 0, 3));
            case "become": return become(a[0], a[1]);
            case "as": return as(a[0], a[1]);
            case "spin": return swap(glassAt(a[0]), 3, range(a[1], 0, 3));
            case "hang": return hang(a[0], a[1]);
            case "person": return person(a[0], a[1]);
            case "personIs": return personIs(a[0], a[1]);
            case "stand": return stand(a[0], a[1], a[2]);
            case "pay": return pay(a[0], a[1]);
            case "hour": { int was = s.hour; s.hour = range(a[0], 0, 9999); return was; }
            case "feed": return feed(l[0], (int) l[1]);
            case "text": return text(a[0]);
            case "untell": { String was = s.texts[range(a[0], 0, 1)]; s.texts[a[0]] = null; return was == null ? 0 : 1; }
            case "law": return law(s, range(a[0], 0, 1), a[1], a[2], a[3]);
            case "hours": return hours(a[0], 48, false);
            case "loose": return hours(a[0], 24, true);
            case "seed": { int was = s.z; s.z = a[0]; return was; }
            case "look": return look(a[0], a[1], a[2]);
            case "at": return at(a[0], a[1], a[2]);
            case "sees": return sees(a[0]);
            case "then": return then(a[0], a[1]);
            case "starts": return starts(a[0], a[1]);
            case "spins": return spins(a[0], a[1], a[2]);
            case "odds": return odds(a[0]);
            case "fits": return fits(a[0], a[1]);
            default: return rest(act, a);
        }
    }

    private int rest(String act, int[] a) {
        switch (act) {
            case "voice": return voice(a[0], a[1], a[2]);
            case "body": need(a[0] >= 0 && a[0] < Math.min(30, trace.size()), 2); return trace.get(a[0]);
            case "sheet": return sheet(a[0], a[1], a[2]);
            case "put": return put(a[0], a[1], a[2]);
            case "move": return move(a);
            case "turnsOf": return turnsOf(a[0]);
            case "judge": return judge(a[0]);
            case "image": image = s.copy(); return ++images;
            case "restore": need(image != null, 2); s = image.copy(); return s.hour;
            case "tell": need(s.waiting.size() < 24, 4); s.waiting.add(a[0]); return s.waiting.size();
            case "check": return check();
            case "count": return new int[] {s.glasses.size(), s.people.size(), s.hour, s.tape.length(), s.waiting.size(),
                trace.size(), s.z}[range(a[0], 0, 6)];
            case "told": return errors[range(a[0], 1, 6)];
            default: throw new IllegalStateException(act);
        }
    }

    private static void need(boolean right, int k) {
        if (!right) {
            throw new Wrong(k);
        }
    }

    private static int range(int v, int from, int to) {
        need(v >= from && v <= to, 1);
        return v;
    }

    private int[] glassAt(int glass) {
        return s.glasses.get(range(glass, 0, s.glasses.size() - 1));
    }

    private int[] personAt(int person) {
        return s.people.get(range(person, 0, s.people.size() - 1));
    }

    private static int swap(int[] row, int at, int v) {
        int was = row[at];
        row[at] = v;
        return was;
    }

    private int glass(int km, int cell, int turn) {
        range(km, 0, 69);
        range(cell, 0, 63);
        range(turn, 0, 3);
        need(s.glasses.size() < 8, 4);
        need(s.glasses.stream().noneMatch(g -> g[2] == cell), 3);
        s.glasses.add(new int[] {km / 10, km % 10, cell, turn, 0});
        return s.glasses.size() - 1;
    }

    private int become(int glass, int km) {
        int[] g = glassAt(glass);
        range(km, 0, 69);
        g[1] = km % 10;
        return swap(g, 0, km / 10);
    }

    private int as(int glass, int kind) {
        int[] g = glassAt(glass);
        range(kind, 0, 6);
        for (int k = g[0]; k >= 0; k = ABOVE[k]) {
            if (k == kind) {
                return g[1];
            }
        }
        throw new Wrong(5);
    }

    private int hang(int glass, int cell) {
        int[] g = glassAt(glass);
        range(cell, 0, 63);
        need(s.glasses.stream().noneMatch(o -> o != g && o[2] == cell), 3);
        return swap(g, 2, cell);
    }

    private int person(int cell, int way) {
        range(cell, 0, 63);
        range(way, 0, 3);
        need(s.people.size() < 6, 4);
        s.people.add(new int[] {cell, way, 0});
        return s.people.size() - 1;
    }

    private int personIs(int person, int what) {
        int[] p = personAt(person);
        return range(what, 0, 3) == 3 ? due(s, person) : p[what];
    }

    private int stand(int person, int cell, int way) {
        int[] p = personAt(person);
        range(cell, 0, 63);
        range(way, 0, 3);
        return 4 * swap(p, 0, cell) + swap(p, 1, way);
    }

    private int pay(int person, int n) {
        int[] p = personAt(person);
        int left = Math.max(0, p[2] - range(n, 0, 99999));
        return swap(p, 2, left) - left;
    }

    // ---- texts

    private int feed(long word, int n) {
        range(n, 1, 8);
        need(s.tape.length() + n <= 60, 4);
        for (int i = 0; i < n; i++) {
            s.tape.append((char) (word >> 8 * i & 255));
        }
        return s.tape.length();
    }

    private int text(int use) {
        range(use, 0, 1);
        String text = s.tape.toString();
        s.tape.setLength(0);
        String names = use == 0 ? "nkm" : "thp";
        if (value(text, 0, 0, names, 1, 1, 1) == null) {
            return -10 - fault(text, names);
        }
        s.texts[use] = text;
        return 1;
    }

    /** The length of the longest beginning that some end makes a TEXT. */
    private static int fault(String text, String names) {
        for (int many = text.length(); many > 0; many--) {
            String closed = "";
            for (int i = 0; i <= 5; i++) {
                String begun = text.substring(0, many);
                if (value(begun + closed, 0, 0, names, 1, 1, 1) != null
                    || value(begun + "1" + closed, 0, 0, names, 1, 1, 1) != null) {
                    return many;
                }
                closed += ")";
            }
        }
        return 0;
    }

    static int feeOrFault(String text, int n, int k, int m) {
        Integer fee = value(text, 0, 0, "nkm", n, k, m);
        return fee == null ? -10 - fault(text, "nkm") : Math.min(99, Math.max(0, fee));
    }

    private static final String[] SIGNS = {"|", "&", "<=>", "+-", "*/%"};

    /** What a text is worth at a level, split at the last sign of that level; null, if it is none. */
    private static Integer value(String t, int level, int open, String names, int a, int b, int c) {
        if (open > 5) {
            return null;
        }
        if (level == 5) {
            return unit(t, open, names, a, b, c);
        }
        int at = -1;
        for (int i = 0, deep = 0; i < t.length(); i++) {
            deep += t.charAt(i) == '(' ? 1 : t.charAt(i) == ')' ? -1 : 0;
            at = deep == 0 && SIGNS[level].indexOf(t.charAt(i)) >= 0 ? i : at;
        }
        if (at < 0) {
            return value(t, level + 1, open, names, a, b, c);
        }
        Integer left = value(t.substring(0, at), level == 2 ? 3 : level, open, names, a, b, c);
        Integer right = value(t.substring(at + 1), level + 1, open, names, a, b, c);
        return left == null || right == null ? null : Integer.valueOf(join(t.charAt(at), left, right));
    }

    private static Integer unit(String t, int open, String names, int a, int b, int c) {
        if (t.matches("[0-9]{1,4}")) {
            return Integer.valueOf(t);
        }
        if (t.length() == 1 && names.contains(t)) {
            return new int[] {a, b, c}[names.indexOf(t)];
        }
        if (t.startsWith("!")) {
            Integer of = open + 1 > 5 ? null : unit(t.substring(1), open + 1, names, a, b, c);
            return of == null ? null : Integer.valueOf(of == 0 ? 1 : 0);
        }
        if (t.startsWith("(") && t.endsWith(")") && t.length() > 1) {
            return value(t.substring(1, t.length() - 1), 0, open + 1, names, a, b, c);
        }
        return null;
    }

    private static int join(char sign, int x, int y) {
        switch (sign) {
            case '|': return x != 0 | y != 0 ? 1 : 0;
            case '&': return x != 0 & y != 0 ? 1 : 0;
            case '<': return x < y ? 1 : 0;
            case '=': return x == y ? 1 : 0;
            case '>': return x > y ? 1 : 0;
            case '+': return (int) ((long) x + y);
            case '-': return (int) ((long) x - y);
            case '*': return (int) ((long) x * y);
            case '/': return y == 0 ? 0 : (int) ((long) x / y);
            default: return y == 0 ? 0 : (int) ((long) x % y);
        }
    }

    private static int law(State s, int use, int a, int b, int c) {
        int most = use == 0 ? 99 : 999;
        Integer gives = use == 0 ? c : a;
        if (s.texts[use] != null) {
            gives = value(s.texts[use], 0, 0, use == 0 ? "nkm" : "thp", a, b, c);
        }
        return Math.min(most, Math.max(0, gives));
    }

    // ---- looks

    private static int onward(State s, int[] g, int way) {
        int rest = s.hour % 24;
        boolean night = rest < 6 || rest > 17;
        int mirror = BY_TURN[g[3]].charAt(way) - '0';
        int back = (way + 2) % 4;
        switch (g[0]) {
            case 0: return mirror;
            case 1: return way <= 1 ? mirror : way;
            case 2: return night ? mirror : way;
            case 3: return back;
            case 4: return way <= 1 ? (mirror + 2) % 4 : 5 - way;
            case 5: return night ? mirror : g[1] > 4 ? back : way;
            default: return g[4] > g[1] ? -1 : mirror;
        }
    }

    private static Beam beam(State s, int cell, int way) {
        Beam b = new Beam();
        b.cells.add(cell);
        int row = cell / 8;
        int place = cell % 8;
        while (true) {
            row += way == 0 ? -1 : way == 2 ? 1 : 0;
            place += way == 3 ? -1 : way == 1 ? 1 : 0;
            if (row < 0 || row > 7 || place < 0 || place > 7) {
                return b;
            }
            if (b.cells.size() == 257) {
                b.ever = true;
                return b;
            }
            b.cells.add(8 * row + place);
            for (int i = 0; i < s.glasses.size(); i++) {
                if (s.glasses.get(i)[2] == 8 * row + place) {
                    int to = onward(s, s.glasses.get(i), way);
                    if (to != way) {
                        b.met.add(i);
                    }
                    way = to;
                    break;
                }
            }
            if (way < 0) {
                return b;
            }
        }
    }

    private static int tax(State s, Beam b) {
        int tax = 0;
        for (int i = 0; i < b.met.size(); i++) {
            int[] g = s.glasses.get(b.met.get(i));
            tax += law(s, 0, i + 1, g[0], g[1]);
        }
        return b.ever ? 999 : Math.min(tax, 999);
    }

    private static int due(State s, int person) {
        int[] p = s.people.get(person);
        return law(s, 1, tax(s, beam(s, p[0], p[1])), s.hour % 24, person);
    }

    private static void anHour(State s) {
        for (int i = 0; i < s.people.size(); i++) {
            int[] p = s.people.get(i);
            p[2] = Math.min(99999, p[2] + due(s, i));
            Beam b = beam(s, p[0], p[1]);
            if (!b.ever) {
                b.met.forEach(g -> s.glasses.get(g)[4] = Math.min(99999, s.glasses.get(g)[4] + 1));
            }
        }
        s.hour++;
    }

    private int hours(int n, int most, boolean draws) {
        range(n, 1, most);
        need(s.hour + n <= 9999, 3);
        for (int i = 0; i < n; i++) {
            if (draws && !s.people.isEmpty()) {
                int[] p = s.people.get(draw() % s.people.size());
                int place = draw() % 256;
                p[0] = place / 4;
                p[1] = place % 4;
            }
            anHour(s);
        }
        return s.hour;
    }

    private int draw() {
        s.z = (int) (s.z * 1103515245L + 12345L);
        return s.z >>> 8;
    }

    private int look(int cell, int way, int what) {
        Beam b = beam(s, range(cell, 0, 63), range(way, 0, 3));
        range(what, 0, 3);
        need(what == 3 || !b.ever, 2);
        return new int[] {b.cells.get(b.cells.size() - 1), b.cells.size(), b.met.size(), tax(s, b)}[what];
    }

    private int at(int cell, int way, int i) {
        Beam b = beam(s, range(cell, 0, 63), range(way, 0, 3));
        need(i >= 0, 1);
        need(i < b.cells.size(), 2);
        return b.cells.get(i);
    }

    private int sees(int person) {
        int[] p = personAt(person);
        Beam b = beam(s, p[0], p[1]);
        int set = 0;
        for (int i = 0; i < s.people.size(); i++) {
            set += b.cells.contains(s.people.get(i)[0]) ? 1 << i : 0;
        }
        return set;
    }

    private int then(int person, int n) {
        personAt(person);
        range(n, 0, 48);
        State later = s.copy();
        for (int i = 0; i < n; i++) {
            anHour(later);
        }
        return later.people.get(person)[2];
    }

    private int starts(int cell, int what) {
        range(cell, 0, 63);
        range(what, 0, 1);
        List<Integer> from = new ArrayList<>();
        for (int i = 0; i < 256; i++) {
            if (i / 4 != cell && beam(s, i / 4, i % 4).cells.contains(cell)) {
                from.add(i);
            }
        }
        return manyOrLeast(from, what);
    }

    private static int manyOrLeast(List<Integer> list, int what) {
        need(what == 0 || !list.isEmpty(), 2);
        return what == 0 ? list.size() : list.get(0);
    }

    private int spins(int person, int to, int what) {
        int[] p = personAt(person);
        range(to, 0, 63);
        range(what, -1, 3);
        // Each TURN of each GLASS: the row of those that are others is kept if it is shorter, or as short and ahead.
        List<Integer> best = null;
        int n = s.glasses.size();
        for (int code = 0; code < 1 << 2 * n; code++) {
            List<Integer> row = new ArrayList<>();
            for (int i = 0; i < n && row.size() <= 4; i++) {
                if ((code >> 2 * i & 3) != s.glasses.get(i)[3]) {
                    row.add(i);
                    row.add(code >> 2 * i & 3);
                }
            }
            if (row.size() <= 4 && isAhead(row, best)) {
                State other = s.copy();
                for (int i = 0; i < row.size(); i += 2) {
                    other.glasses.get(row.get(i))[3] = row.get(i + 1);
                }
                best = beam(other, p[0], p[1]).cells.contains(to) ? row : best;
            }
        }
        need(best != null, 2);
        return what < 0 ? best.size() / 2 : what < best.size() ? best.get(what) : -1;
    }

    private static boolean isAhead(List<Integer> row, List<Integer> best) {
        if (best == null || row.size() != best.size()) {
            return best == null || row.size() < best.size();
        }
        for (int i = 0; i < row.size(); i++) {
            if (!row.get(i).equals(best.get(i))) {
                return row.get(i) < best.get(i);
            }
        }
        return false;
    }

    private int odds(int part) {
        range(part, 0, 1);
        int ever = 0;
        for (int i = 0; i < 256; i++) {
            ever += beam(s, i / 4, i % 4).ever ? 1 : 0;
        }
        int by = 256;
        for (int i = 256; i > 1; i--) {
            if (ever % i == 0 && by % i == 0) {
                ever /= i;
                by /= i;
            }
        }
        return part == 0 ? ever : by;
    }

    // ---- sheets

    private int fits(int sheet, int what) {
        range(sheet, 0, 3);
        range(what, 0, 1);
        need(sheets[sheet] != null, 2);
        List<Integer> told = new ArrayList<>();
        for (int i = 0; i < size(sheet); i++) {
            told.add(number(sheet, i));
        }
        List<Integer> from = new ArrayList<>();
        for (int i = 0; i < 256; i++) {
            List<Integer> cells = beam(s, i / 4, i % 4).cells;
            if (cells.size() >= told.size() && cells.subList(0, told.size()).equals(told)) {
                from.add(i);
            }
        }
        return manyOrLeast(from, what);
    }

    private int size(int sheet) {
        return java.lang.reflect.Array.getLength(sheets[sheet]);
    }

    private int number(int sheet, int i) {
        return java.lang.reflect.Array.getInt(sheets[sheet], i);
    }

    private int sheet(int sheet, int bits, int n) {
        range(sheet, 0, 3);
        need(bits == 0 || bits == 8 || bits == 16 || bits == 32, 1);
        if (bits == 0) {
            sheets[sheet] = null;
            return 1;
        }
        need(n >= 0, 3);
        range(n, 0, 24);
        sheets[sheet] = bits == 8 ? new byte[n] : bits == 16 ? new short[n] : new int[n];
        return 1;
    }

    private int put(int sheet, int i, int v) {
        range(sheet, 0, 3);
        Object row = sheets[sheet];
        need(row != null, 2);
        range(i, 0, size(sheet) - 1);
        if (row instanceof byte[]) {
            ((byte[]) row)[i] = (byte) v;
        } else if (row instanceof short[]) {
            ((short[]) row)[i] = (short) v;
        } else {
            ((int[]) row)[i] = v;
        }
        return 1;
    }

    private int move(int[] a) {
        range(a[0], 0, 3);
        range(a[2], 0, 3);
        Object from = sheets[a[0]];
        Object to = sheets[a[2]];
        try {
            System.arraycopy(from, a[1], to, a[3], a[4]);
        } catch (NullPointerException e) {
            throw new Wrong(2);
        } catch (ArrayStoreException e) {
            throw new Wrong(5);
        } catch (IndexOutOfBoundsException e) {
            throw new Wrong(1);
        }
        return a[4];
    }

    private int turnsOf(int sheet) {
        range(sheet, 0, 3);
        need(sheets[sheet] != null, 2);
        int i = 0;
        while (i < size(sheet) && i < s.glasses.size() && number(sheet, i) >= 0 && number(sheet, i) <= 3) {
            s.glasses.get(i)[3] = number(sheet, i);
            i++;
        }
        return i;
    }

    private int judge(int sheet) {
        range(sheet, 0, 3);
        need(sheets[sheet] != null, 2);
        int i = 0;
        while (i < size(sheet) && i < s.people.size() && number(sheet, i) == due(s, i)) {
            i++;
        }
        return i;
    }

    private int check() {
        List<Integer> told = s.waiting;
        s.waiting = new ArrayList<>();
        for (int i = 0; i < told.size(); i++) {
            if (i >= s.people.size() || told.get(i) != s.people.get(i)[2]) {
                return 1 + i;
            }
        }
        return 0;
    }

    // ---- voices: the KINDS as classes, so that the Java language itself finds the BODIES

    private int voice(int glass, int voice, int x) {
        int[] g = glassAt(glass);
        range(voice, 0, 3);
        List<Integer> begun = new ArrayList<>();
        Mirror mirror = mirror(g[0]);
        mirror.k = glass;
        mirror.m = g[1];
        mirror.begun = begun;
        trace = begun;
        int said;
        try {
            said = voice == 0 ? mirror.gleams(x) : voice == 1 ? mirror.glints(x) : voice == 2 ? mirror.fades(x)
                : mirror.parts(x);
        } catch (ArithmeticException e) {
            throw new Wrong(6);
        }
        return said;
    }

    private static Mirror mirror(int kind) {
        switch (kind) {
            case 1: return new Spoon();
            case 2: return new Pane();
            case 3: return new Lake();
            case 4: return new Bowl();
            case 5: return new Lamped();
            case 6: return new Silvered();
            default: return new Mirror();
        }
    }

    private static class Mirror {
        int k;
        int m;
        List<Integer> begun;

        int gleams(int x) {
            begun.add(10);
            return x + k;
        }

        int glints(int x) {
            begun.add(11);
            return gleams(x) * 2;
        }

        int fades(int x) {
            begun.add(12);
            return glints(x) - m;
        }

        int parts(int x) {
            begun.add(13);
            return x / (m - k);
        }
    }

    private static class Spoon extends Mirror {
        @Override int gleams(int x) {
            begun.add(20);
            return super.gleams(x) - 4;
        }

        @Override int parts(int x) {
            begun.add(21);
            return super.parts(x) + glints(1);
        }
    }

    private static class Pane extends Mirror {
        @Override int glints(int x) {
            begun.add(30);
            return 0 - super.glints(x);
        }
    }

    private static final class Lake extends Mirror {
        @Override int fades(int x) {
            begun.add(40);
            return super.fades(x / 2);
        }
    }

    private static final class Bowl extends Spoon {
        @Override int gleams(int x) {
            begun.add(50);
            return super.gleams(x) * 3;
        }

        @Override int fades(int x) {
            begun.add(51);
            return super.fades(x) ^ k;
        }
    }

    private static final class Lamped extends Pane {
        @Override int glints(int x) {
            begun.add(60);
            return super.glints(x + 1);
        }
    }

    private static final class Silvered extends Mirror {
        @Override int gleams(int x) {
            begun.add(70);
            return 9;
        }

        @Override int glints(int x) {
            begun.add(71);
            return super.glints(x) + m;
        }
    }
}
