/** The boundary cases of promises 1 to 8, and of what the Terms say of CELLS, WAYS, GLASSES and ONWARD. */
final class GlassBounds {
    private static final String[] BY_TURN = {"1032", "3210", "0321", "2103"};
    private static final int[] NIGHTS = {0, 1, 5, 18, 19, 23, 24, 29, 42, 47, 9978, 9989};
    private static final int[] DAYS = {6, 7, 12, 17, 30, 41, 9990, 9999};

    private GlassBounds() {
    }

    static void run() {
        newObject();
        oneObjectAlone();
        cellsAndWays();
        night();
        kinds();
        glassTakes();
        glassRefuses();
        glassIs();
        onwardByTurn();
        onwardByKind();
        silvered();
        throwsOn();
        become();
        as();
        spin();
        hang();
    }

    private static void newObject() {
        Due.says(1, "All as at first; no GLASSES, no PEOPLE, no TEXTS.");
        GlassTax x = new GlassTax();
        for (int k = 1; k <= 6; k++) {
            Due.is("told " + k, x.told(k), 0);
        }
        for (int i = 0; i < 6; i++) {
            Due.is("count " + i, x.count(i), 0);
        }
        Due.is("z", x.count(6), 1);
        Due.is("glassIs 0", x.glassIs(0, 0), Due.BEYOND);
        Due.is("personIs 0", x.personIs(0, 0), Due.BEYOND);
        Due.is("untell 0", x.untell(0), 0);
        Due.is("untell 1", x.untell(1), 0);
        Due.is("law 0", x.law(0, 1, 2, 3), 3);
        Due.is("law 1", x.law(1, 1, 2, 3), 1);
        Due.is("look", x.look(0, 1, 3), 0);
        Due.is("body", x.body(0), Due.NONE);
        for (int i = 0; i < 4; i++) {
            Due.is("sheet " + i, x.put(i, 0, 0), Due.NONE);
        }
        Due.is("check", x.check(), 0);
        Due.is("restore", x.restore(), Due.NONE);
        Due.is("image", x.image(), 1);
        Due.is("hour", x.hour(0), 0);
        Due.is("seed", x.seed(0), 1);
    }

    private static void oneObjectAlone() {
        GlassTax x = new GlassTax();
        x.glass(35, 3, 2);
        x.person(0, 1);
        x.hours(3);
        x.seed(9);
        x.tell(1);
        x.feed('n', 1);
        x.sheet(0, 8, 2);
        x.voice(0, 0, 1);
        x.image();
        Due.text(x, 1, "7");
        x.told(0);
        GlassTax y = new GlassTax();
        for (int i = 0; i < 6; i++) {
            Due.is("count of another object, " + i, y.count(i), 0);
        }
        Due.is("z of another object", y.count(6), 1);
        Due.is("look of another object", y.look(0, 1, 3), 0);
        Due.is("law of another object", y.law(1, 3, 0, 0), 3);
        Due.is("told of another object", y.told(1), 0);
        Due.is("put of another object", y.put(0, 0, 0), Due.NONE);
        Due.is("restore of another object", y.restore(), Due.NONE);
        Due.is("image of another object", y.image(), 1);
    }

    private static void cellsAndWays() {
        Due.says(0, "1. CELLS 0 .. 63: 8 times the row (0 .. 7, from the top), and the place in it (0 .. 7).");
        Due.says(0, "WAYS: 0 up, 1 right, 2 down, 3 left.");
        int[] cells = {0, 3, 7, 8, 15, 27, 48, 55, 56, 60, 63};
        for (int cell : cells) {
            int row = cell / 8;
            int place = cell % 8;
            int[] ends = {place, 8 * row + 7, 56 + place, 8 * row};
            int[] more = {row, 7 - place, 7 - row, place};
            GlassTax x = new GlassTax();
            for (int way = 0; way < 4; way++) {
                Due.is("look " + cell + " " + way + " ENDS", x.look(cell, way, 0), ends[way]);
                Due.is("look " + cell + " " + way + " CELLS", x.look(cell, way, 1), 1 + more[way]);
            }
        }
        GlassTax x = new GlassTax();
        Due.is("up", x.at(27, 0, 1), 19);
        Due.is("right", x.at(27, 1, 1), 28);
        Due.is("down", x.at(27, 2, 1), 35);
        Due.is("left", x.at(27, 3, 1), 26);
    }

    private static void night() {
        Due.says(0, "HOUR (0 .. 9999; 0 at first); NIGHT, if its rest by 24 is 18 or more, or below 6.");
        GlassTax x = new GlassTax();
        Due.is("HOUR at first", x.count(2), 0);
        x.glass(20, 0, 2);
        for (int h : NIGHTS) {
            x.hour(h);
            Due.is("NIGHT at " + h, x.throwsOn(0, 1), 3);
        }
        for (int h : DAYS) {
            x.hour(h);
            Due.is("day at " + h, x.throwsOn(0, 1), 1);
        }
    }

    private static void kinds() {
        Due.says(0, "GLASSES 0, 1, .. (at most 8), of KINDS: 0 GLASS, 1 SPOON under GLASS, 2 PANE under GLASS, "
            + "3 LAKE under GLASS, 4 BOWL under SPOON, 5 LAMPED under PANE, 6 SILVERED under GLASS;");
        String[] under = {"0", "01", "02", "03", "014", "025", "06"};
        for (int kind = 0; kind < 7; kind++) {
            GlassTax x = new GlassTax();
            x.glass(10 * kind + 9, 0, 0);
            for (int as = 0; as < 7; as++) {
                boolean isOne = under[kind].indexOf((char) ('0' + as)) >= 0;
                Due.is("KIND " + kind + " as " + as, x.as(0, as), isOne ? 9 : Due.KIND);
            }
        }
        GlassTax x = new GlassTax();
        for (int i = 0; i < 8; i++) {
            Due.is("GLASS " + i, x.glass(0, i, 0), i);
        }
        Due.is("a ninth", x.glass(0, 8, 0), Due.FULL);
        Due.is("GLASSES", x.count(0), 8);
    }

    private static void glassTakes() {
        Due.says(0, "each with a number m (0 .. 9), in a CELL of its own, with a TURN (0 .. 3), "
            + "SEEN so often (0 .. 99999; 0 at first).");
        Due.says(2, "One more GLASS (km: 10 times the KIND, and m), in a CELL, with a TURN: the number.");
        for (int km = 0; km < 70; km++) {
            GlassTax x = new GlassTax();
            int cell = km % 64;
            Due.is("glass " + km, x.glass(km, cell, km % 4), 0);
            Due.is("KIND of " + km, x.glassIs(0, 0), km / 10);
            Due.is("m of " + km, x.glassIs(0, 1), km % 10);
            Due.is("CELL", x.glassIs(0, 2), cell);
            Due.is("TURN", x.glassIs(0, 3), km % 4);
            Due.is("SEEN", x.glassIs(0, 4), 0);
        }
        GlassTax x = new GlassTax();
        Due.is("the least of all", x.glass(0, 0, 0), 0);
        Due.is("the greatest of all", x.glass(69, 63, 3), 1);
        Due.is("GLASSES", x.count(0), 2);
    }

    private static void glassRefuses() {
        GlassTax x = new GlassTax();
        Due.says(2, "BEYOND.");
        int[][] beyond = {{-1, 0, 0}, {70, 0, 0}, {0, -1, 0}, {0, 64, 0}, {0, 0, -1}, {0, 0, 4},
            {Integer.MIN_VALUE, 0, 0}, {0, Integer.MAX_VALUE, 0}, {0, 0, Integer.MIN_VALUE}};
        for (int[] b : beyond) {
            Due.is("glass " + b[0] + " " + b[1] + " " + b[2], x.glass(b[0], b[1], b[2]), Due.BEYOND);
        }
        Due.is("no GLASS came", x.count(0), 0);
        Due.says(2, "STATE: there is one in that CELL.");
        Due.is("glass", x.glass(11, 63, 1), 0);
        Due.is("there is one", x.glass(12, 63, 2), Due.STATE);
        Due.is("BEYOND is asked ahead of STATE", x.glass(70, 63, 2), Due.BEYOND);
        Due.is("the one there stays", x.glassIs(0, 1), 1);
        Due.is("the refused one has no number", x.glass(12, 0, 2), 1);
        x.hang(0, 62);
        Due.is("there is none any more", x.glass(0, 63, 0), 2);
        Due.is("it hangs there now", x.glass(0, 62, 0), Due.STATE);
        Due.says(2, "FULL.");
        for (int i = 3; i < 8; i++) {
            Due.is("glass " + i, x.glass(0, i, 0), i);
        }
        Due.is("a ninth", x.glass(0, 20, 0), Due.FULL);
        Due.is("FULL is asked ahead of STATE", x.glass(0, 63, 0), Due.FULL);
        Due.is("BEYOND is asked ahead of FULL", x.glass(0, 20, 4), Due.BEYOND);
        Due.is("GLASSES", x.count(0), 8);
        Due.is("no GLASS came there", x.look(16, 1, 2), 0);
    }

    private static void glassIs() {
        Due.says(3, "Of a GLASS: 0 KIND, 1 m, 2 CELL, 3 TURN, 4 SEEN.");
        GlassTax x = new GlassTax();
        x.glass(57, 21, 3);
        x.glass(36, 2, 1);
        x.person(0, 1);
        x.hours(2);
        int[][] is = {{5, 7, 21, 3, 0}, {3, 6, 2, 1, 2}};
        for (int glass = 0; glass < 2; glass++) {
            for (int what = 0; what < 5; what++) {
                Due.is("glassIs " + glass + " " + what, x.glassIs(glass, what), is[glass][what]);
            }
        }
        Due.says(3, "BEYOND.");
        Due.is("what -1", x.glassIs(0, -1), Due.BEYOND);
        Due.is("what 5", x.glassIs(0, 5), Due.BEYOND);
        Due.is("glass -1", x.glassIs(-1, 0), Due.BEYOND);
        Due.is("glass 2", x.glassIs(2, 0), Due.BEYOND);
        for (int i = 2; i < 8; i++) {
            x.glass(i, 40 + i, 0);
        }
        Due.is("glass 7 of 8", x.glassIs(7, 1), 7);
        Due.is("glass 8 of 8", x.glassIs(8, 1), Due.BEYOND);
    }

    private static void onwardByTurn() {
        Due.says(0, "ONWARD (w the WAY there): GLASS by TURN: 0: 0 and 1 change for one another, 2 and 3, too. "
            + "1: 0 and 3, 1 and 2. 2: 1 and 3 (0 and 2 stay). 3: 0 and 2 (1 and 3 stay).");
        always("GLASS", 0, BY_TURN);
        always("GLASS with m 9", 9, BY_TURN);
        Due.says(0, "SPOON: as GLASS, if w is 0 or 1; else w.");
        always("SPOON", 10, new String[] {"1023", "3223", "0323", "2123"});
        Due.says(0, "LAKE: the other WAY round (0 and 2, 1 and 3 change).");
        always("LAKE", 30, new String[] {"2301", "2301", "2301", "2301"});
        Due.says(0, "BOWL: if w is 0 or 1, the other WAY round from where SPOON would send it; else 2 and 3 change.");
        always("BOWL", 40, new String[] {"3232", "1032", "2132", "0332"});
    }

    private static void onwardByKind() {
        Due.says(0, "PANE: as GLASS by NIGHT; else w.");
        byNight("PANE", 20, BY_TURN);
        byDay("PANE", 20, "0123");
        Due.says(0, "LAMPED: by NIGHT as PANE; by day the other WAY round, if m is above 4; else as PANE.");
        for (int m = 0; m < 10; m++) {
            byNight("LAMPED with m " + m, 50 + m, BY_TURN);
            byDay("LAMPED with m " + m, 50 + m, m > 4 ? "2301" : "0123");
        }
    }

    private static void always(String what, int km, String[] byTurn) {
        GlassTax x = new GlassTax();
        x.glass(km, 9, 0);
        x.hour(3);
        throwsSo(what + " by NIGHT", x, byTurn);
        x.hour(12);
        throwsSo(what + " by day", x, byTurn);
    }

    private static void byNight(String what, int km, String[] byTurn) {
        GlassTax x = new GlassTax();
        x.glass(km, 9, 0);
        x.hour(5);
        throwsSo(what + " at 5", x, byTurn);
        x.hour(18);
        throwsSo(what + " at 18", x, byTurn);
    }

    private static void byDay(String what, int km, String onward) {
        GlassTax x = new GlassTax();
        x.glass(km, 9, 0);
        x.hour(6);
        throwsSo(what + " at 6", x, new String[] {onward, onward, onward, onward});
        x.hour(17);
        throwsSo(what + " at 17", x, new String[] {onward, onward, onward, onward});
    }

    private static void throwsSo(String what, GlassTax x, String[] byTurn) {
        for (int turn = 0; turn < 4; turn++) {
            x.spin(0, turn);
            for (int way = 0; way < 4; way++) {
                Due.is(what + " TURN " + turn + " w " + way, x.throwsOn(0, way), byTurn[turn].charAt(way) - '0');
            }
        }
    }

    private static void silvered() {
        Due.says(0, "SILVERED: as GLASS; if SEEN is above m, the look ENDS.");
        always("SILVERED", 60, BY_TURN);
        for (int m = 0; m < 10; m++) {
            GlassTax x = new GlassTax();
            x.glass(60 + m, 2, 2);
            x.person(0, 1);
            if (m > 0) {
                x.hours(m);
            }
            Due.is("SEEN is m, which is " + m, x.glassIs(0, 4), m);
            throwsSo("SILVERED, SEEN is m, which is " + m, x, BY_TURN);
            x.spin(0, 2);
            Due.is("not met where as GLASS it stays", x.look(10, 0, 2), 0);
            x.hours(1);
            Due.is("SEEN is m + 1", x.glassIs(0, 4), m + 1);
            for (int i = 0; i < 16; i++) {
                x.spin(0, i / 4);
                Due.is("SEEN above m " + m + " TURN " + i / 4 + " w " + i % 4, x.throwsOn(0, i % 4), -1);
            }
            x.spin(0, 2);
            Due.is("it MEETS it where as GLASS it would stay", x.look(18, 0, 2), 1);
            Due.is("and ENDS there", x.look(18, 0, 0), 2);
            Due.is("in so many CELLS", x.look(18, 0, 1), 3);
        }
    }

    private static void throwsOn() {
        Due.says(4, "ONWARD of a GLASS by a WAY, now (-1: it ENDS).");
        GlassTax x = new GlassTax();
        x.glass(20, 2, 0);
        x.glass(60, 60, 0);
        Due.is("by NIGHT", x.throwsOn(0, 0), 1);
        x.hour(6);
        Due.is("now by day", x.throwsOn(0, 0), 0);
        x.spin(0, 1);
        x.become(0, 0);
        Due.is("now a GLASS, turned", x.throwsOn(0, 0), 3);
        Due.is("not SEEN", x.throwsOn(1, 3), 2);
        x.person(56, 1);
        x.hours(1);
        Due.is("now it ENDS", x.throwsOn(1, 3), -1);
        Due.is("-1 is no ERROR", x.told(1), 0);
        Due.says(4, "BEYOND.");
        Due.is("way -1", x.throwsOn(0, -1), Due.BEYOND);
        Due.is("way 4", x.throwsOn(0, 4), Due.BEYOND);
        Due.is("way 4 where it ENDS", x.throwsOn(1, 4), Due.BEYOND);
        Due.is("glass -1", x.throwsOn(-1, 0), Due.BEYOND);
        Due.is("glass 2", x.throwsOn(2, 0), Due.BEYOND);
    }

    private static void become() {
        Due.says(5, "A GLASS becomes one of a KIND, with m (km): the KIND that it was.");
        GlassTax x = new GlassTax();
        x.glass(36, 2, 1);
        x.person(0, 1);
        x.hours(1);
        int was = 3;
        for (int km = 69; km >= 0; km--) {
            Due.is("become " + km, x.become(0, km), was);
            Due.is("KIND", x.glassIs(0, 0), km / 10);
            Due.is("m", x.glassIs(0, 1), km % 10);
            was = km / 10;
        }
        Due.is("the same again", x.become(0, 0), 0);
        Due.is("CELL", x.glassIs(0, 2), 2);
        Due.is("TURN", x.glassIs(0, 3), 1);
        Due.is("SEEN", x.glassIs(0, 4), 1);
        Due.says(5, "BEYOND.");
        Due.is("km -1", x.become(0, -1), Due.BEYOND);
        Due.is("km 70", x.become(0, 70), Due.BEYOND);
        Due.is("glass -1", x.become(-1, 0), Due.BEYOND);
        Due.is("glass 1", x.become(1, 0), Due.BEYOND);
        Due.is("KIND stays", x.glassIs(0, 0), 0);
        Due.is("m stays", x.glassIs(0, 1), 0);
    }

    private static void as() {
        Due.says(6, "A GLASS as one of a KIND: m.");
        GlassTax x = new GlassTax();
        x.glass(40, 0, 0);
        x.glass(49, 1, 0);
        Due.is("the least m", x.as(0, 4), 0);
        Due.is("the greatest m", x.as(1, 4), 9);
        Due.is("as the one above", x.as(1, 1), 9);
        Due.is("as the one above that", x.as(1, 0), 9);
        Due.says(6, "BEYOND.");
        Due.is("kind -1", x.as(0, -1), Due.BEYOND);
        Due.is("kind 7", x.as(0, 7), Due.BEYOND);
        Due.is("glass -1", x.as(-1, 0), Due.BEYOND);
        Due.is("glass 2", x.as(2, 0), Due.BEYOND);
        Due.is("BEYOND is asked ahead of KIND", x.as(2, 6), Due.BEYOND);
        Due.says(6, "KIND: it isn't of that KIND, nor of one under it.");
        Due.is("beside it", x.as(0, 2), Due.KIND);
        Due.is("beside it", x.as(0, 6), Due.KIND);
        x.become(0, 10);
        Due.is("under it", x.as(0, 4), Due.KIND);
        x.become(0, 0);
        Due.is("under it", x.as(0, 1), Due.KIND);
        Due.is("told", x.told(5), 4);
    }

    private static void spin() {
        Due.says(7, "TURN of a GLASS becomes so: what it was.");
        GlassTax x = new GlassTax();
        x.glass(0, 0, 3);
        x.glass(0, 1, 1);
        Due.is("spin 0", x.spin(0, 0), 3);
        Due.is("spin 3", x.spin(0, 3), 0);
        Due.is("the same again", x.spin(0, 3), 3);
        Due.is("the other one stays", x.glassIs(1, 3), 1);
        Due.says(7, "BEYOND.");
        Due.is("turn -1", x.spin(0, -1), Due.BEYOND);
        Due.is("turn 4", x.spin(0, 4), Due.BEYOND);
        Due.is("glass -1", x.spin(-1, 0), Due.BEYOND);
        Due.is("glass 2", x.spin(2, 0), Due.BEYOND);
        Due.is("TURN stays", x.glassIs(0, 3), 3);
    }

    private static void hang() {
        Due.says(8, "A GLASS is in a CELL (it may be its own): where it was.");
        GlassTax x = new GlassTax();
        x.glass(35, 7, 0);
        x.glass(36, 8, 0);
        Due.is("its own", x.hang(0, 7), 7);
        Due.is("to the least", x.hang(0, 0), 7);
        Due.is("to the greatest", x.hang(0, 63), 0);
        Due.is("its own again", x.hang(0, 63), 63);
        Due.is("it is met there", x.look(60, 1, 3), 5);
        Due.is("and not where it was", x.look(4, 1, 2), 0);
        Due.is("the other one is met where it is", x.look(24, 0, 3), 6);
        Due.says(8, "BEYOND.");
        Due.is("cell -1", x.hang(0, -1), Due.BEYOND);
        Due.is("cell 64", x.hang(0, 64), Due.BEYOND);
        Due.is("glass -1", x.hang(-1, 5), Due.BEYOND);
        Due.is("glass 2", x.hang(2, 5), Due.BEYOND);
        Due.is("BEYOND is asked ahead of STATE", x.hang(2, 63), Due.BEYOND);
        Due.says(8, "STATE: another one is there.");
        Due.is("another one, above", x.hang(0, 8), Due.STATE);
        Due.is("another one, below", x.hang(1, 63), Due.STATE);
        Due.is("CELL stays", x.glassIs(0, 2), 63);
        Due.is("CELL stays", x.glassIs(1, 2), 8);
        x.hang(0, 9);
        Due.is("nobody is there any more", x.hang(1, 63), 8);
    }
}
