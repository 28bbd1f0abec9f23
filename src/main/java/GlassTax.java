import java.util.Arrays;

/** A street of 64 cells in which mirrors are metered: looks, what they cost, and who owes it. */
public final class GlassTax {
    private static final int LOW = -1000000000;
    private static final int BEYOND = 1;
    private static final int NONE = 2;
    private static final int STATE = 3;
    private static final int FULL = 4;
    private static final int KIND = 5;
    private static final int PARTED = 6;

    private static final int CELLS = 64;
    private static final int WAYS = 4;
    private static final int TURNS = 4;
    private static final int LOOKS = 256;
    private static final int ENDS = -1;
    private static final int DAY = 24;
    private static final int LAST_HOUR = 9999;
    private static final int MOST_KEPT = 99999;
    private static final int MOST_TAX = 999;
    private static final int MOST_FEE = 99;
    private static final int MOST_GLASSES = 8;
    private static final int MOST_PEOPLE = 6;
    private static final int MOST_HOURS = 48;
    private static final int MOST_LOOSE_HOURS = 24;
    private static final int TAPE_BYTES = 60;
    private static final int MOST_WAITING = 24;
    private static final int SHEETS = 4;
    private static final int SHEET_NUMBERS = 24;

    private static final int FEE = 0;
    private static final int DUE = 1;

    private static final int GLASS = 0;
    private static final int SPOON = 1;
    private static final int PANE = 2;
    private static final int LAKE = 3;
    private static final int BOWL = 4;
    private static final int LAMPED = 5;
    private static final int SILVERED = 6;
    private static final int LAST_KM = 69;
    private static final int[] KIND_ABOVE = {GLASS, GLASS, GLASS, GLASS, SPOON, PANE, GLASS};

    private final Street now = new Street();
    private final Street kept = new Street();
    private final Street thought = new Street();
    private final Look gaze = new Look();
    private final Reader reader = new Reader();
    private final Voices voices = new Voices();
    private final Sheet[] sheets = new Sheet[SHEETS];
    private final int[] spinRow = new int[4];
    private final int[] errors = new int[PARTED + 1];
    private boolean hasImage;
    private int images;

    public GlassTax() {
        for (int i = 0; i < SHEETS; i++) {
            sheets[i] = new Sheet();
        }
    }

    // ---- glasses, people

    public int glass(int km, int cell, int turn) {
        if (isNoKm(km) || isNoCell(cell) || isNoTurn(turn)) {
            return error(BEYOND);
        }
        if (now.glassCount >= MOST_GLASSES) {
            return error(FULL);
        }
        if (now.glassAt(cell) >= 0) {
            return error(STATE);
        }
        return now.addGlass(km, cell, turn);
    }

    public int glassIs(int glass, int what) {
        Glass one = now.glassOf(glass);
        if (one == null) {
            return error(BEYOND);
        }
        switch (what) {
            case 0:
                return one.kind;
            case 1:
                return one.m;
            case 2:
                return one.cell;
            case 3:
                return one.turn;
            case 4:
                return one.seen;
            default:
                return error(BEYOND);
        }
    }

    public int throwsOn(int glass, int way) {
        Glass one = now.glassOf(glass);
        if (one == null || isNoWay(way)) {
            return error(BEYOND);
        }
        return one.onward(way, now.isNight());
    }

    public int become(int glass, int km) {
        Glass one = now.glassOf(glass);
        if (one == null || isNoKm(km)) {
            return error(BEYOND);
        }
        int was = one.kind;
        one.kind = km / 10;
        one.m = km % 10;
        return was;
    }

    public int as(int glass, int kind) {
        Glass one = now.glassOf(glass);
        if (one == null || kind < GLASS || kind > SILVERED) {
            return error(BEYOND);
        }
        return one.isOne(kind) ? one.m : error(KIND);
    }

    public int spin(int glass, int turn) {
        Glass one = now.glassOf(glass);
        if (one == null || isNoTurn(turn)) {
            return error(BEYOND);
        }
        int was = one.turn;
        one.turn = turn;
        return was;
    }

    public int hang(int glass, int cell) {
        Glass one = now.glassOf(glass);
        if (one == null || isNoCell(cell)) {
            return error(BEYOND);
        }
        int there = now.glassAt(cell);
        if (there >= 0 && there != glass) {
            return error(STATE);
        }
        int was = one.cell;
        now.hangGlass(glass, cell);
        return was;
    }

    public int person(int cell, int way) {
        if (isNoCell(cell) || isNoWay(way)) {
            return error(BEYOND);
        }
        if (now.peopleCount >= MOST_PEOPLE) {
            return error(FULL);
        }
        return now.addPerson(cell, way);
    }

    public int personIs(int person, int what) {
        Person one = now.personOf(person);
        if (one == null) {
            return error(BEYOND);
        }
        switch (what) {
            case 0:
                return one.cell;
            case 1:
                return one.way;
            case 2:
                return one.owes;
            case 3:
                return now.dueOf(person, gaze);
            default:
                return error(BEYOND);
        }
    }

    public int stand(int person, int cell, int way) {
        Person one = now.personOf(person);
        if (one == null || isNoCell(cell) || isNoWay(way)) {
            return error(BEYOND);
        }
        int was = WAYS * one.cell + one.way;
        one.cell = cell;
        one.way = way;
        return was;
    }

    public int pay(int person, int n) {
        Person one = now.personOf(person);
        if (one == null || n < 0 || n > MOST_KEPT) {
            return error(BEYOND);
        }
        int paid = Math.min(n, one.owes);
        one.owes -= paid;
        return paid;
    }

    public int hour(int v) {
        if (v < 0 || v > LAST_HOUR) {
            return error(BEYOND);
        }
        int was = now.hour;
        now.hour = v;
        return was;
    }

    // ---- texts

    public int feed(long word, int n) {
        if (n < 1 || n > 8) {
            return error(BEYOND);
        }
        if (now.taped + n > TAPE_BYTES) {
            return error(FULL);
        }
        for (int i = 0; i < n; i++) {
            now.addByte((int) (word >>> (8 * i)) & 255);
        }
        return now.taped;
    }

    public int text(int use) {
        Text text = now.textOf(use);
        if (text == null) {
            return error(BEYOND);
        }
        int fault = reader.fault(now.tape, now.taped, use);
        now.taped = 0;
        if (fault >= 0) {
            return -10 - fault;
        }
        text.copyFrom(reader.draft);
        return 1;
    }

    public int untell(int use) {
        Text text = now.textOf(use);
        if (text == null) {
            return error(BEYOND);
        }
        int was = text.isThere ? 1 : 0;
        text.isThere = false;
        return was;
    }

    public int law(int use, int a, int b, int c) {
        if (now.textOf(use) == null) {
            return error(BEYOND);
        }
        return now.given(use, a, b, c);
    }

    // ---- hours

    public int hours(int n) {
        if (n < 1 || n > MOST_HOURS) {
            return error(BEYOND);
        }
        if (now.hour + n > LAST_HOUR) {
            return error(STATE);
        }
        for (int i = 0; i < n; i++) {
            now.passHour(gaze);
        }
        return now.hour;
    }

    public int loose(int n) {
        if (n < 1 || n > MOST_LOOSE_HOURS) {
            return error(BEYOND);
        }
        if (now.hour + n > LAST_HOUR) {
            return error(STATE);
        }
        for (int i = 0; i < n; i++) {
            now.standByDraws();
            now.passHour(gaze);
        }
        return now.hour;
    }

    public int seed(int v) {
        int was = now.z;
        now.z = v;
        return was;
    }

    // ---- what would be

    public int look(int cell, int way, int what) {
        if (isNoCell(cell) || isNoWay(way) || what < 0 || what > 3) {
            return error(BEYOND);
        }
        gaze.follow(now, cell, way);
        if (what == 3) {
            return now.taxOf(gaze);
        }
        if (gaze.isEver) {
            return error(NONE);
        }
        switch (what) {
            case 0:
                return gaze.cellAt(gaze.length - 1);
            case 1:
                return gaze.length;
            default:
                return gaze.meetings;
        }
    }

    public int at(int cell, int way, int i) {
        if (isNoCell(cell) || isNoWay(way) || i < 0) {
            return error(BEYOND);
        }
        gaze.follow(now, cell, way);
        return i < gaze.length ? gaze.cellAt(i) : error(NONE);
    }

    public int sees(int person) {
        Person one = now.personOf(person);
        if (one == null) {
            return error(BEYOND);
        }
        gaze.follow(now, one.cell, one.way);
        int seen = 0;
        for (int i = 0; i < now.peopleCount; i++) {
            Person other = now.personOf(i);
            if (other != null && gaze.seesCell(other.cell)) {
                seen |= 1 << i;
            }
        }
        return seen;
    }

    public int then(int person, int n) {
        if (now.personOf(person) == null || n < 0 || n > MOST_HOURS) {
            return error(BEYOND);
        }
        thought.copyFrom(now);
        for (int i = 0; i < n; i++) {
            thought.passHour(gaze);
        }
        Person one = thought.personOf(person);
        return one == null ? 0 : one.owes;
    }

    public int starts(int cell, int what) {
        if (isNoCell(cell) || what < 0 || what > 1) {
            return error(BEYOND);
        }
        int many = 0;
        int least = -1;
        for (int i = 0; i < LOOKS; i++) {
            gaze.follow(now, i / WAYS, i % WAYS);
            if (i / WAYS != cell && gaze.seesCell(cell)) {
                many++;
                least = least < 0 ? i : least;
            }
        }
        return manyOrLeast(what, many, least);
    }

    public int spins(int person, int to, int what) {
        Person one = now.personOf(person);
        if (one == null || isNoCell(to) || what < -1 || what > 3) {
            return error(BEYOND);
        }
        thought.copyFrom(now);
        int fewest = fewestSpins(one, to);
        if (fewest < 0) {
            return error(NONE);
        }
        if (what < 0) {
            return fewest;
        }
        return what < 2 * fewest ? spinRow[what] : -1;
    }

    public int odds(int part) {
        if (part < 0 || part > 1) {
            return error(BEYOND);
        }
        int above = 0;
        for (int i = 0; i < LOOKS; i++) {
            gaze.follow(now, i / WAYS, i % WAYS);
            above += gaze.isEver ? 1 : 0;
        }
        int below = LOOKS;
        // LOOKS is a power of two, so that halving leads to the lowest terms, 0 by 1 among them.
        for (int i = 0; i < 8 && above % 2 == 0; i++) {
            above /= 2;
            below /= 2;
        }
        return part == 0 ? above : below;
    }

    public int fits(int sheet, int what) {
        Sheet told = sheetOf(sheet);
        if (told == null || what < 0 || what > 1) {
            return error(BEYOND);
        }
        if (told.bits == 0) {
            return error(NONE);
        }
        int many = 0;
        int least = -1;
        for (int i = 0; i < LOOKS; i++) {
            gaze.follow(now, i / WAYS, i % WAYS);
            if (isLook(told)) {
                many++;
                least = least < 0 ? i : least;
            }
        }
        return manyOrLeast(what, many, least);
    }

    // ---- voices, sheets, images, what is told

    public int voice(int glass, int voice, int x) {
        Glass one = now.glassOf(glass);
        if (one == null || voice < 0 || voice >= Voices.VOICES) {
            return error(BEYOND);
        }
        int said = voices.answer(one, glass, voice, x);
        return voices.isParted ? error(PARTED) : said;
    }

    public int body(int i) {
        if (i < 0 || i >= voices.traced) {
            return error(NONE);
        }
        return voices.tracedAt(i);
    }

    public int sheet(int sheet, int bits, int n) {
        Sheet one = sheetOf(sheet);
        if (one == null || bits != 0 && bits != 8 && bits != 16 && bits != 32) {
            return error(BEYOND);
        }
        if (bits != 0 && n < 0) {
            return error(STATE);
        }
        if (bits != 0 && n > SHEET_NUMBERS) {
            return error(BEYOND);
        }
        one.begin(bits, bits == 0 ? 0 : n);
        return 1;
    }

    public int put(int sheet, int i, int v) {
        Sheet one = sheetOf(sheet);
        if (one == null) {
            return error(BEYOND);
        }
        if (one.bits == 0) {
            return error(NONE);
        }
        if (i < 0 || i >= one.length) {
            return error(BEYOND);
        }
        one.write(i, v);
        return 1;
    }

    public int move(int sheet, int i, int other, int j, int n) {
        Sheet from = sheetOf(sheet);
        Sheet to = sheetOf(other);
        if (from == null || to == null) {
            return error(BEYOND);
        }
        if (from.bits == 0 || to.bits == 0) {
            return error(NONE);
        }
        if (from.bits != to.bits) {
            return error(KIND);
        }
        if (!from.holds(i, n) || !to.holds(j, n)) {
            return error(BEYOND);
        }
        System.arraycopy(from.numbers, i, to.numbers, j, n);
        return n;
    }

    public int turnsOf(int sheet) {
        Sheet one = sheetOf(sheet);
        if (one == null) {
            return error(BEYOND);
        }
        if (one.bits == 0) {
            return error(NONE);
        }
        int many = Math.min(one.length, now.glassCount);
        for (int i = 0; i < many; i++) {
            Glass glass = now.glassOf(i);
            int turn = one.numberAt(i);
            if (glass == null || isNoTurn(turn)) {
                return i;
            }
            glass.turn = turn;
        }
        return many;
    }

    public int judge(int sheet) {
        Sheet one = sheetOf(sheet);
        if (one == null) {
            return error(BEYOND);
        }
        if (one.bits == 0) {
            return error(NONE);
        }
        int many = Math.min(one.length, now.peopleCount);
        for (int i = 0; i < many; i++) {
            if (one.numberAt(i) != now.dueOf(i, gaze)) {
                return i;
            }
        }
        return many;
    }

    public int image() {
        kept.copyFrom(now);
        hasImage = true;
        images++;
        return images;
    }

    public int restore() {
        if (!hasImage) {
            return error(NONE);
        }
        now.copyFrom(kept);
        return now.hour;
    }

    public int tell(int v) {
        if (now.waits >= MOST_WAITING) {
            return error(FULL);
        }
        now.addWaiting(v);
        return now.waits;
    }

    public int check() {
        int many = now.waits;
        now.waits = 0;
        for (int i = 0; i < many; i++) {
            Person one = now.personOf(i);
            if (one == null || one.owes != now.waitingAt(i)) {
                return 1 + i;
            }
        }
        return 0;
    }

    public int count(int what) {
        switch (what) {
            case 0:
                return now.glassCount;
            case 1:
                return now.peopleCount;
            case 2:
                return now.hour;
            case 3:
                return now.taped;
            case 4:
                return now.waits;
            case 5:
                return voices.traced;
            case 6:
                return now.z;
            default:
                return error(BEYOND);
        }
    }

    public int told(int k) {
        if (k < BEYOND || k > PARTED) {
            return error(BEYOND);
        }
        return errors[k];
    }

    // ---- what the acts share

    private int error(int k) {
        if (k >= 0 && k < errors.length) {
            errors[k]++;
        }
        return LOW - k;
    }

    private int manyOrLeast(int what, int many, int least) {
        if (what == 0) {
            return many;
        }
        return least < 0 ? error(NONE) : least;
    }

    private Sheet sheetOf(int sheet) {
        return sheet < 0 || sheet >= SHEETS ? null : sheets[sheet];
    }

    private static boolean isNoCell(int cell) {
        return cell < 0 || cell >= CELLS;
    }

    private static boolean isNoWay(int way) {
        return way < 0 || way >= WAYS;
    }

    private static boolean isNoTurn(int turn) {
        return turn < 0 || turn >= TURNS;
    }

    private static boolean isNoKm(int km) {
        return km < 0 || km > LAST_KM;
    }

    private boolean isLook(Sheet told) {
        if (told.length > gaze.length) {
            return false;
        }
        for (int i = 0; i < told.length; i++) {
            if (told.numberAt(i) != gaze.cellAt(i)) {
                return false;
            }
        }
        return true;
    }

    /** How many GLASSES of the thought street must be turned (-1: not by 2); which, is in spinRow. */
    private int fewestSpins(Person one, int to) {
        gaze.follow(thought, one.cell, one.way);
        if (gaze.seesCell(to)) {
            return 0;
        }
        if (isSeenByOneSpin(one, to, 0, 0)) {
            return 1;
        }
        return isSeenByTwoSpins(one, to) ? 2 : -1;
    }

    private boolean isSeenByTwoSpins(Person one, int to) {
        for (int i = 0; i < thought.glassCount; i++) {
            Glass glass = thought.glassOf(i);
            int was = glass == null ? 0 : glass.turn;
            for (int turn = 0; turn < TURNS && glass != null; turn++) {
                glass.turn = turn;
                if (turn != was && isSeenByOneSpin(one, to, i + 1, 2)) {
                    spinRow[0] = i;
                    spinRow[1] = turn;
                    return true;
                }
                glass.turn = was;
            }
        }
        return false;
    }

    /** Tries the GLASSES from first on, one by one; place (0 or 2) is where the row tells it. */
    private boolean isSeenByOneSpin(Person one, int to, int first, int place) {
        for (int i = first; i < thought.glassCount; i++) {
            Glass glass = thought.glassOf(i);
            int was = glass == null ? 0 : glass.turn;
            for (int turn = 0; turn < TURNS && glass != null; turn++) {
                glass.turn = turn;
                gaze.follow(thought, one.cell, one.way);
                if (turn != was && gaze.seesCell(to)) {
                    writeSpin(place, i, turn);
                    return true;
                }
                glass.turn = was;
            }
        }
        return false;
    }

    private void writeSpin(int place, int glass, int turn) {
        if (place >= 0 && place + 1 < spinRow.length) {
            spinRow[place] = glass;
            spinRow[place + 1] = turn;
        }
    }

    /** One GLASS: what it is, where it hangs, and where it throws a look. */
    private static final class Glass {
        int kind;
        int m;
        int cell;
        int turn;
        int seen;

        void copyFrom(Glass other) {
            kind = other.kind;
            m = other.m;
            cell = other.cell;
            turn = other.turn;
            seen = other.seen;
        }

        /** Whether its KIND is the wanted one, or one under it. */
        boolean isOne(int wanted) {
            int of = kind;
            for (int i = 0; i < KIND_ABOVE.length && of > GLASS && of < KIND_ABOVE.length; i++) {
                if (of == wanted) {
                    return true;
                }
                of = KIND_ABOVE[of];
            }
            return of == wanted;
        }

        /** ONWARD: the WAY in which a look that comes by a WAY goes on, or ENDS. */
        int onward(int way, boolean isNight) {
            switch (kind) {
                case SPOON:
                    return way < 2 ? byTurn(way) : way;
                case PANE:
                    return isNight ? byTurn(way) : way;
                case LAKE:
                    return roundFrom(way);
                case BOWL:
                    return way < 2 ? roundFrom(byTurn(way)) : way ^ 1;
                case LAMPED:
                    if (isNight) {
                        return byTurn(way);
                    }
                    return m > 4 ? roundFrom(way) : way;
                case SILVERED:
                    return seen > m ? ENDS : byTurn(way);
                default:
                    return byTurn(way);
            }
        }

        private int byTurn(int way) {
            switch (turn) {
                case 0:
                    return way ^ 1;
                case 1:
                    return 3 - way;
                case 2:
                    return way % 2 == 1 ? roundFrom(way) : way;
                default:
                    return way % 2 == 0 ? roundFrom(way) : way;
            }
        }

        private static int roundFrom(int way) {
            return way ^ 2;
        }
    }

    /** One of the PEOPLE. */
    private static final class Person {
        int cell;
        int way;
        int owes;

        void copyFrom(Person other) {
            cell = other.cell;
            way = other.way;
            owes = other.owes;
        }
    }

    /** All that an IMAGE keeps: GLASSES, PEOPLE, TEXTS, HOUR, z, THE TAPE, the numbers that wait. */
    private static final class Street {
        final Glass[] glasses = new Glass[MOST_GLASSES];
        final Person[] people = new Person[MOST_PEOPLE];
        final Text[] texts = new Text[2];
        /** By CELL the number of the GLASS there, or -1. */
        final int[] glassIn = new int[CELLS];
        final int[] tape = new int[TAPE_BYTES];
        final int[] waiting = new int[MOST_WAITING];
        int glassCount;
        int peopleCount;
        int taped;
        int waits;
        int hour;
        int z = 1;

        Street() {
            Arrays.fill(glassIn, -1);
            for (int i = 0; i < glasses.length; i++) {
                glasses[i] = new Glass();
            }
            for (int i = 0; i < people.length; i++) {
                people[i] = new Person();
            }
            for (int i = 0; i < texts.length; i++) {
                texts[i] = new Text();
            }
        }

        void copyFrom(Street other) {
            for (int i = 0; i < glasses.length; i++) {
                glasses[i].copyFrom(other.glasses[i]);
            }
            for (int i = 0; i < people.length; i++) {
                people[i].copyFrom(other.people[i]);
            }
            for (int i = 0; i < texts.length; i++) {
                texts[i].copyFrom(other.texts[i]);
            }
            System.arraycopy(other.glassIn, 0, glassIn, 0, glassIn.length);
            System.arraycopy(other.tape, 0, tape, 0, tape.length);
            System.arraycopy(other.waiting, 0, waiting, 0, waiting.length);
            glassCount = other.glassCount;
            peopleCount = other.peopleCount;
            taped = other.taped;
            waits = other.waits;
            hour = other.hour;
            z = other.z;
        }

        Glass glassOf(int number) {
            if (number < 0 || number >= glassCount || number >= glasses.length) {
                return null;
            }
            return glasses[number];
        }

        Person personOf(int number) {
            if (number < 0 || number >= peopleCount || number >= people.length) {
                return null;
            }
            return people[number];
        }

        Text textOf(int use) {
            return use < 0 || use >= texts.length ? null : texts[use];
        }

        int glassAt(int cell) {
            return cell < 0 || cell >= glassIn.length ? -1 : glassIn[cell];
        }

        int addGlass(int km, int cell, int turn) {
            int number = glassCount;
            glassCount++;
            Glass one = glassOf(number);
            if (one == null) {
                return -1;
            }
            one.kind = km / 10;
            one.m = km % 10;
            one.turn = turn;
            one.seen = 0;
            one.cell = cell;
            hangGlass(number, cell);
            return number;
        }

        void hangGlass(int number, int cell) {
            Glass one = glassOf(number);
            if (one == null || isNoCell(cell) || isNoCell(one.cell)) {
                return;
            }
            glassIn[one.cell] = -1;
            glassIn[cell] = number;
            one.cell = cell;
        }

        int addPerson(int cell, int way) {
            int number = peopleCount;
            peopleCount++;
            Person one = personOf(number);
            if (one == null) {
                return -1;
            }
            one.cell = cell;
            one.way = way;
            one.owes = 0;
            return number;
        }

        void addByte(int value) {
            if (taped >= 0 && taped < tape.length) {
                tape[taped] = value;
                taped++;
            }
        }

        void addWaiting(int value) {
            if (waits >= 0 && waits < waiting.length) {
                waiting[waits] = value;
                waits++;
            }
        }

        int waitingAt(int i) {
            return i < 0 || i >= waiting.length ? 0 : waiting[i];
        }

        boolean isNight() {
            return hour % DAY >= 18 || hour % DAY < 6;
        }

        /** What a USE gives, with its NAMES in order. */
        int given(int use, int a, int b, int c) {
            Text text = textOf(use);
            boolean isThere = text != null && text.isThere;
            if (use == FEE) {
                return Math.max(0, Math.min(MOST_FEE, isThere ? text.worth(a, b, c) : c));
            }
            return Math.max(0, Math.min(MOST_TAX, isThere ? text.worth(a, b, c) : a));
        }

        int taxOf(Look look) {
            if (look.isEver) {
                return MOST_TAX;
            }
            int tax = 0;
            for (int i = 0; i < look.meetings && tax < MOST_TAX; i++) {
                Glass met = glassOf(look.metAt(i));
                if (met != null) {
                    tax += given(FEE, i + 1, met.kind, met.m);
                }
            }
            return Math.min(MOST_TAX, tax);
        }

        /** DUE of one of the PEOPLE; the look is then the one from where that one STANDS. */
        int dueOf(int person, Look look) {
            Person one = personOf(person);
            if (one == null) {
                return 0;
            }
            look.follow(this, one.cell, one.way);
            return given(DUE, taxOf(look), hour % DAY, person);
        }

        /** AN HOUR goes by. */
        void passHour(Look look) {
            for (int i = 0; i < peopleCount; i++) {
                Person one = personOf(i);
                if (one != null) {
                    one.owes = Math.min(MOST_KEPT, one.owes + dueOf(i, look));
                    countMeetings(look);
                }
            }
            hour++;
        }

        private void countMeetings(Look look) {
            for (int i = 0; i < look.meetings && !look.isEver; i++) {
                Glass met = glassOf(look.metAt(i));
                if (met != null) {
                    met.seen = Math.min(MOST_KEPT, met.seen + 1);
                }
            }
        }

        /** What BY DRAWS does ahead of an HOUR. */
        void standByDraws() {
            if (peopleCount <= 0) {
                return;
            }
            Person one = personOf(draw() % peopleCount);
            int place = draw() % LOOKS;
            if (one != null) {
                one.cell = place / WAYS;
                one.way = place % WAYS;
            }
        }

        private int draw() {
            z = z * 1103515245 + 12345;
            return z >>> 8;
        }
    }

    /** A LOOK: the CELLS in which it is, and the GLASSES that it MEETS, one behind the other. */
    private static final class Look {
        static final int MOST_CELLS = 257;
        final int[] cells = new int[MOST_CELLS];
        final int[] met = new int[MOST_CELLS];
        int length;
        int meetings;
        boolean isEver;

        void follow(Street street, int cell, int way) {
            boolean isNight = street.isNight();
            length = 0;
            meetings = 0;
            isEver = false;
            enter(cell);
            int here = cell;
            int going = way;
            for (int i = 0; i < MOST_CELLS && going != ENDS; i++) {
                here = nextCell(here, going);
                if (here < 0) {
                    return;
                }
                if (length >= MOST_CELLS) {
                    isEver = true;
                    return;
                }
                enter(here);
                int number = street.glassAt(here);
                Glass glass = street.glassOf(number);
                int onward = glass == null ? going : glass.onward(going, isNight);
                if (onward != going) {
                    meet(number);
                    going = onward;
                }
            }
        }

        private void enter(int cell) {
            if (length >= 0 && length < cells.length) {
                cells[length] = cell;
                length++;
            }
        }

        private void meet(int glass) {
            if (meetings >= 0 && meetings < met.length) {
                met[meetings] = glass;
                meetings++;
            }
        }

        /** The CELL next to one by a WAY, or -1. */
        private static int nextCell(int cell, int way) {
            switch (way) {
                case 0:
                    return cell >= 8 ? cell - 8 : -1;
                case 1:
                    return cell % 8 < 7 ? cell + 1 : -1;
                case 2:
                    return cell < CELLS - 8 ? cell + 8 : -1;
                default:
                    return cell % 8 > 0 ? cell - 1 : -1;
            }
        }

        int cellAt(int i) {
            return i < 0 || i >= length || i >= cells.length ? -1 : cells[i];
        }

        int metAt(int i) {
            return i < 0 || i >= meetings || i >= met.length ? -1 : met[i];
        }

        boolean seesCell(int cell) {
            for (int i = 0; i < length && i < cells.length; i++) {
                if (cells[i] == cell) {
                    return true;
                }
            }
            return false;
        }
    }

    /**
     * A TEXT as steps for a row of numbers: 0 and more puts that number, -1 to -3 a NAME's,
     * a sign's number below 0 works with what stands last.
     */
    private static final class Text {
        final int[] steps = new int[TAPE_BYTES];
        final int[] stack = new int[TAPE_BYTES];
        int length;
        boolean isThere;

        void copyFrom(Text other) {
            System.arraycopy(other.steps, 0, steps, 0, steps.length);
            length = other.length;
            isThere = other.isThere;
        }

        void add(int step) {
            if (length >= 0 && length < steps.length) {
                steps[length] = step;
                length++;
            }
        }

        int worth(int a, int b, int c) {
            int top = 0;
            for (int i = 0; i < length && i < steps.length; i++) {
                int step = steps[i];
                if (step >= -3) {
                    if (top < stack.length) {
                        stack[top] = step >= 0 ? step : step == -1 ? a : step == -2 ? b : c;
                        top++;
                    }
                } else if (step == -'!') {
                    if (top >= 1) {
                        stack[top - 1] = stack[top - 1] == 0 ? 1 : 0;
                    }
                } else if (top >= 2) {
                    top--;
                    stack[top - 1] = joined(-step, stack[top - 1], stack[top]);
                }
            }
            return top >= 1 ? stack[top - 1] : 0;
        }

        private static int joined(int sign, int left, int right) {
            switch (sign) {
                case '|':
                    return left != 0 || right != 0 ? 1 : 0;
                case '&':
                    return left != 0 && right != 0 ? 1 : 0;
                case '<':
                    return left < right ? 1 : 0;
                case '=':
                    return left == right ? 1 : 0;
                case '>':
                    return left > right ? 1 : 0;
                case '+':
                    return left + right;
                case '-':
                    return left - right;
                case '*':
                    return left * right;
                case '/':
                    return right == 0 ? 0 : left / right;
                default:
                    return right == 0 ? 0 : left % right;
            }
        }
    }

    /** Reads THE TAPE as a TEXT; what it reads is the draft. */
    private static final class Reader {
        static final int MOST_OPEN = 5;
        static final int MOST_DIGITS = 4;
        /** The levels, from what binds least: | and & and < = > and + - and * / %, then Q. */
        static final int COMPARED = 2;
        static final int UNIT = 5;
        static final String NAMES = "nkmthp";
        final Text draft = new Text();
        private int[] tape;
        private int length;
        private int place;
        private int use;

        /** The FAULT of so many bytes as the TEXT of a USE, or -1. */
        int fault(int[] bytes, int many, int forUse) {
            tape = bytes;
            length = many;
            place = 0;
            use = forUse;
            draft.length = 0;
            draft.isThere = true;
            return readPart(0, 0) && place >= length ? -1 : place;
        }

        private int signHere() {
            if (tape == null || place < 0 || place >= length || place >= tape.length) {
                return -1;
            }
            return tape[place];
        }

        /** Reads what stands at a level, while so many of ! and ( are open; false: the FAULT is at place. */
        private boolean readPart(int level, int open) {
            return level >= UNIT ? readUnit(open) : readLevel(level, open);
        }

        private boolean readLevel(int level, int open) {
            if (!readPart(level + 1, open)) {
                return false;
            }
            for (int i = 0; i < TAPE_BYTES && levelOf(signHere()) == level; i++) {
                int sign = signHere();
                place++;
                if (!readPart(level + 1, open)) {
                    return false;
                }
                draft.add(-sign);
                if (level == COMPARED) {
                    return true;
                }
            }
            return true;
        }

        private boolean readUnit(int open) {
            int sign = signHere();
            if (isDigit(sign)) {
                readNumber();
                return true;
            }
            if (sign == '!' || sign == '(') {
                return open < MOST_OPEN && readOpen(sign, open + 1);
            }
            for (int i = 0; i < 3; i++) {
                int name = 3 * use + i;
                if (name >= 0 && name < NAMES.length() && NAMES.charAt(name) == sign) {
                    draft.add(-1 - i);
                    place++;
                    return true;
                }
            }
            return false;
        }

        private boolean readOpen(int sign, int open) {
            place++;
            if (sign == '!') {
                boolean isRead = readUnit(open);
                draft.add(-sign);
                return isRead;
            }
            if (!readPart(0, open) || signHere() != ')') {
                return false;
            }
            place++;
            return true;
        }

        private void readNumber() {
            int number = 0;
            for (int i = 0; i < MOST_DIGITS && isDigit(signHere()); i++) {
                number = 10 * number + signHere() - '0';
                place++;
            }
            draft.add(number);
        }

        private static boolean isDigit(int sign) {
            return sign >= '0' && sign <= '9';
        }

        private static int levelOf(int sign) {
            switch (sign) {
                case '|':
                    return 0;
                case '&':
                    return 1;
                case '<':
                case '=':
                case '>':
                    return COMPARED;
                case '+':
                case '-':
                    return 3;
                case '*':
                case '/':
                case '%':
                    return 4;
                default:
                    return -1;
            }
        }
    }

    /** The VOICES, by their BODIES, and THE TRACE. */
    private static final class Voices {
        static final int VOICES = 4;
        static final int GLEAMS = 0;
        static final int GLINTS = 1;
        static final int FADES = 2;
        static final int PARTS = 3;
        static final int MOST_TRACED = 30;
        /** Far above what any KIND's BODIES need. */
        static final int MOST_DEEP = 30;
        /** By KIND and VOICE the number of the BODY, or 0. */
        static final int[] BODIES = {
            10, 11, 12, 13,
            20, 0, 0, 21,
            0, 30, 0, 0,
            0, 0, 40, 0,
            50, 0, 51, 0,
            0, 60, 0, 0,
            70, 71, 0, 0,
        };
        /** THE TRACE is written as the BODIES begin, so that one that is PARTED leaves those that began. */
        final int[] trace = new int[MOST_TRACED];
        int traced;
        boolean isParted;
        private int kind;
        private int number;
        private int m;

        int answer(Glass glass, int glassNumber, int voice, int x) {
            kind = glass.kind;
            number = glassNumber;
            m = glass.m;
            traced = 0;
            isParted = false;
            return say(kind, voice, x, 0);
        }

        int tracedAt(int i) {
            return i < 0 || i >= traced || i >= trace.length ? 0 : trace[i];
        }

        /** A VOICE from a KIND on: its BODY there, or that of the next KIND above that has one. */
        private int say(int from, int voice, int x, int deep) {
            if (isParted || deep > MOST_DEEP) {
                return 0;
            }
            int body = bodyFrom(from, voice);
            if (traced >= 0 && traced < trace.length) {
                trace[traced] = body;
                traced++;
            }
            switch (body / 10) {
                case 1:
                    return sayGlass(body, x, deep + 1);
                case 2:
                    return saySpoon(body, x, deep + 1);
                case 5:
                    return sayBowl(body, x, deep + 1);
                case 7:
                    return saySilvered(body, x, deep + 1);
                default:
                    return sayOnly(body, x, deep + 1);
            }
        }

        private int sayGlass(int body, int x, int deep) {
            switch (body) {
                case 10:
                    return x + number;
                case 11:
                    return say(kind, GLEAMS, x, deep) * 2;
                case 12:
                    return say(kind, GLINTS, x, deep) - m;
                default:
                    int by = m - number;
                    isParted = by == 0;
                    return by == 0 ? 0 : x / by;
            }
        }

        private int saySpoon(int body, int x, int deep) {
            if (body == 20) {
                return say(GLASS, GLEAMS, x, deep) - 4;
            }
            int parted = say(GLASS, PARTS, x, deep);
            return parted + say(kind, GLINTS, 1, deep);
        }

        private int sayBowl(int body, int x, int deep) {
            if (body == 50) {
                return say(SPOON, GLEAMS, x, deep) * 3;
            }
            return say(SPOON, FADES, x, deep) ^ number;
        }

        private int saySilvered(int body, int x, int deep) {
            return body == 70 ? 9 : say(GLASS, GLINTS, x, deep) + m;
        }

        /** The BODIES of KINDS that have one only. */
        private int sayOnly(int body, int x, int deep) {
            switch (body) {
                case 30:
                    return 0 - say(GLASS, GLINTS, x, deep);
                case 40:
                    return say(GLASS, FADES, x / 2, deep);
                case 60:
                    return say(PANE, GLINTS, x + 1, deep);
                default:
                    return 0;
            }
        }

        private static int bodyFrom(int from, int voice) {
            int of = from;
            for (int i = 0; i < KIND_ABOVE.length && of >= 0 && of < KIND_ABOVE.length; i++) {
                int place = VOICES * of + voice;
                if (place >= 0 && place < BODIES.length && BODIES[place] != 0) {
                    return BODIES[place];
                }
                of = KIND_ABOVE[of];
            }
            return 0;
        }
    }

    /** A SHEET: a row of numbers of so many bits, or missing (0 bits). */
    private static final class Sheet {
        final int[] numbers = new int[SHEET_NUMBERS];
        int bits;
        int length;

        void begin(int ofBits, int many) {
            Arrays.fill(numbers, 0);
            bits = ofBits;
            length = many;
        }

        boolean holds(int first, int many) {
            return many >= 0 && first >= 0 && many <= length && first <= length - many;
        }

        void write(int i, int v) {
            if (i >= 0 && i < numbers.length) {
                numbers[i] = bits == 8 ? (byte) v : bits == 16 ? (short) v : v;
            }
        }

        int numberAt(int i) {
            return i < 0 || i >= numbers.length ? 0 : numbers[i];
        }
    }
}
