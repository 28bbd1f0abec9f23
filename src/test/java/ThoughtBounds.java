/** The boundary cases of promises 24 to 28, and of what the Terms say of what is only thought. */
final class ThoughtBounds {
    private ThoughtBounds() {
    }

    static void run() {
        onlyThought();
        then();
        starts();
        startsWithGlasses();
        spinsNone();
        spinsOne();
        spinsTwo();
        spinsFirst();
        spinsErrors();
        odds();
        fits();
        fitsMore();
        fitsErrors();
    }

    private static void onlyThought() {
        Due.says(0, "3. (All this is only thought; HOUR beyond 9999, too.)");
        GlassTax x = new GlassTax();
        x.glass(60, 2, 1);
        x.glass(36, 10, 0);
        x.person(0, 1);
        x.hour(9999);
        x.sheet(0, 8, 1);
        Due.is("then", x.then(0, 48), 6);
        Due.is("spins", x.spins(0, 7, -1), 1);
        Due.is("starts", x.starts(2, 0) > 0 ? 1 : 0, 1);
        Due.is("odds", x.odds(1), 1);
        Due.is("fits", x.fits(0, 0), 4);
        Due.is("sees", x.sees(0), 1);
        Due.is("HOUR", x.count(2), 9999);
        Due.is("z", x.count(6), 1);
        Due.is("SEEN", x.glassIs(0, 4), 0);
        Due.is("TURN", x.glassIs(0, 3), 1);
        Due.is("OWES", x.personIs(0, 2), 0);
        Due.is("CELL and WAY", x.stand(0, 0, 1), 1);
        Due.is("an HOUR of it can't be", x.hours(1), Due.STATE);
    }

    private static void then() {
        Due.says(24, "THEN, for n (0 .. 48).");
        Due.says(0, "THEN: what one OWES, n HOURS on.");
        GlassTax x = new GlassTax();
        x.glass(37, 2, 0);
        x.person(0, 1);
        x.person(63, 1);
        x.hours(2);
        Due.is("0 HOURS on", x.then(0, 0), 14);
        Due.is("1 HOUR on", x.then(0, 1), 21);
        Due.is("47 HOURS on", x.then(0, 47), 14 + 7 * 47);
        Due.is("48 HOURS on", x.then(0, 48), 14 + 7 * 48);
        Due.is("the other one", x.then(1, 48), 0);
        Due.text(x, 1, "h+p");
        x.hour(9980);
        int owes = 14;
        for (int h = 9980; h < 9980 + 48; h++) {
            owes += h % 24;
        }
        Due.is("over 9999", x.then(0, 48), owes);
        Due.is("over 9999, the other one", x.then(1, 48), owes - 14 + 48);
        GlassTax y = new GlassTax();
        y.glass(29, 2, 0);
        y.person(0, 1);
        y.hour(9997);
        // 9997 is 13, so that NIGHT begins at 10002 and ends at 10014.
        Due.is("by day", y.then(0, 5), 0);
        Due.is("the first of the NIGHT", y.then(0, 6), 9);
        Due.is("the NIGHT", y.then(0, 17), 9 * 12);
        Due.is("the day behind it", y.then(0, 18), 9 * 12);
        Due.is("the next NIGHT", y.then(0, 48), 9 * 24);
        Due.says(24, "BEYOND.");
        int[] beyond = {-1, 49, Integer.MIN_VALUE, Integer.MAX_VALUE};
        for (int n : beyond) {
            Due.is("n " + n, x.then(0, n), Due.BEYOND);
        }
        Due.is("person -1", x.then(-1, 0), Due.BEYOND);
        Due.is("person 2", x.then(2, 0), Due.BEYOND);
    }

    private static void starts() {
        Due.says(25, "STARTS: what 0 how many, 1 the least.");
        Due.says(0, "STARTS of a CELL: LOOKS from another CELL, by any WAY, that SEE it: "
            + "told by 4 times the CELL, and the WAY, of where they begin: how many, the least.");
        GlassTax x = new GlassTax();
        int[] cells = {0, 1, 7, 8, 27, 56, 63};
        int[] least = {1 * 4 + 3, 1, 1, 2, 3 * 4 + 2, 2, 7 * 4 + 2};
        for (int i = 0; i < cells.length; i++) {
            Due.is("all of its row and all above and below, " + cells[i], x.starts(cells[i], 0), 14);
            Due.is("the least of " + cells[i], x.starts(cells[i], 1), least[i]);
        }
        Due.says(25, "BEYOND.");
        int[][] beyond = {{-1, 0}, {64, 0}, {0, -1}, {0, 2}, {Integer.MIN_VALUE, 1}, {0, Integer.MAX_VALUE}};
        for (int[] b : beyond) {
            Due.is("starts " + b[0] + " " + b[1], x.starts(b[0], b[1]), Due.BEYOND);
        }
        Due.says(25, "NONE: (what 1) there is none.");
        // A CELL is seen from the one beside it, whatever hangs there: with eight GLASSES round it, too, NONE never comes.
        GlassTax y = new GlassTax();
        int[] round = {18, 19, 20, 26, 28, 34, 35, 36};
        for (int cell : round) {
            y.glass(30, cell, 0);
        }
        Due.is("from the four beside it", y.starts(27, 0), 4);
        Due.is("the least of the four", y.starts(27, 1), 19 * 4 + 2);
        Due.is("told", y.told(2), 0);
    }

    private static void startsWithGlasses() {
        GlassTax x = new GlassTax();
        x.glass(30, 3, 0);
        Due.is("3 from the row ahead of the lake, 2 thrown back by it, 7 from below", x.starts(0, 0), 12);
        Due.is("the least is thrown back", x.starts(0, 1), 1 * 4 + 1);
        x.glass(30, 5, 0);
        // (3, right), (5, left) and the CELL between by the column: one's own LOOKS to and fro do not count.
        Due.is("between two lakes: one's own do not count", x.starts(4, 0), 2 + 7);
        Due.is("the least begins in a lake", x.starts(4, 1), 3 * 4 + 1);
        x.hang(0, 0);
        x.hang(1, 7);
        // Row 0 to and fro: both WAYS from 1 .. 6 but one's own, from the lakes, and from below.
        Due.is("EVER ones count", x.starts(4, 0), 2 * 5 + 2 + 7);
        Due.is("the least", x.starts(4, 1), 1);
    }

    private static void isRow(String call, GlassTax x, int to, int... row) {
        Due.is(call + " how many", x.spins(0, to, -1), row.length / 2);
        for (int i = 0; i < 4; i++) {
            Due.is(call + " number " + i, x.spins(0, to, i), i < row.length ? row[i] : -1);
        }
    }

    private static void spinsNone() {
        Due.says(26, "SPINS, for a CELL: what -1 how many GLASSES, 0 .. 3 the number there in the row (-1: there is none such).");
        Due.says(0, "SPINS: the fewest GLASSES (0 .. 2) whose TURNS must be others so that the LOOK from where one STANDS "
            + "SEES a CELL; of several the first as a row of numbers (a GLASS, its TURN; another one above it, its TURN).");
        GlassTax x = new GlassTax();
        x.person(8, 1);
        isRow("where one STANDS", x, 8);
        isRow("the last", x, 15);
        x.glass(0, 8, 0);
        x.glass(0, 15, 0);
        isRow("with GLASSES", x, 8);
        isRow("in a GLASS", x, 15);
        isRow("behind it", x, 7);
        x.stand(0, 63, 1);
        isRow("the greatest CELL", x, 63);
    }

    private static void spinsOne() {
        GlassTax x = new GlassTax();
        x.person(8, 1);
        x.glass(0, 10, 0);
        isRow("the least CELL that it SEES", x, 2);
        isRow("down", x, 58, 0, 1);
        isRow("through", x, 15, 0, 3);
        x.spin(0, 1);
        isRow("up", x, 2, 0, 0);
        isRow("through", x, 15, 0, 3);
        x.spin(0, 3);
        isRow("up", x, 2, 0, 0);
        isRow("down", x, 58, 0, 1);
        isRow("as it is", x, 15);
        x.become(0, 10);
        isRow("a spoon, too", x, 58, 0, 1);
        x.become(0, 20);
        isRow("a pane by NIGHT, too", x, 58, 0, 1);
        x.hour(12);
        Due.is("a pane by day not", x.spins(0, 58, -1), Due.NONE);
        isRow("a pane by day as it is", x, 15);
        x.become(0, 30);
        Due.is("a lake not", x.spins(0, 58, -1), Due.NONE);
        x.become(0, 0);
        x.person(9, 1);
        x.stand(0, 15, 3);
        isRow("from where one STANDS now", x, 58, 0, 0);
        Due.is("the other one", x.spins(1, 58, 1), 1);
    }

    private static void spinsTwo() {
        GlassTax x = new GlassTax();
        x.person(8, 1);
        x.glass(0, 10, 0);
        x.glass(0, 13, 0);
        isRow("two, the greatest TURNS", x, 15, 0, 3, 1, 3);
        isRow("one, up", x, 5, 0, 3);
        isRow("two, down", x, 61, 0, 3, 1, 1);
        x.glass(0, 14, 1);
        Due.is("three", x.spins(0, 15, -1), Due.NONE);
        isRow("two of three", x, 62, 0, 3, 1, 3);
        x.spin(0, 3);
        isRow("two of three, the others", x, 15, 1, 3, 2, 3);
        x.spin(1, 3);
        isRow("one of three, the last", x, 15, 2, 3);
        x.spin(0, 0);
        isRow("two of three, the first and the last", x, 15, 0, 3, 2, 3);
        for (int i = 0; i < 5; i++) {
            x.glass(30, 56 + i, 0);
        }
        isRow("two of eight", x, 15, 0, 3, 2, 3);
        GlassTax y = new GlassTax();
        y.person(8, 1);
        for (int i = 0; i < 6; i++) {
            y.glass(30, 56 + i, 0);
        }
        y.glass(0, 13, 0);
        y.glass(0, 10, 0);
        isRow("the last two of eight, by numbers and not by CELLS", y, 15, 6, 3, 7, 3);
    }

    private static void spinsFirst() {
        GlassTax x = new GlassTax();
        x.person(8, 1);
        x.glass(0, 10, 2);
        isRow("it throws back: any TURN, the first of them for up", x, 2, 0, 0);
        x.glass(0, 12, 2);
        x.glass(0, 34, 0);
        // To 4: through 10 (3), up at 12 (0). To 0 by one: none; by two the first row is of GLASSES 0 and 1.
        isRow("two, the least TURN that does", x, 4, 0, 3, 1, 0);
        x.spin(0, 1);
        // Down from 10 to 34, where the TURN 0 throws left: 33, 32.
        isRow("as they are", x, 32);
        isRow("the GLASS of the least number alone", x, 2, 0, 0);
        x.spin(2, 3);
        // 34 throws back up: 32 comes by TURN 0 of GLASS 2; 39 by TURN 1.
        isRow("one, TURN 0", x, 32, 2, 0);
        isRow("one, TURN 1", x, 39, 2, 1);
        isRow("one, TURN 2 lets it through", x, 58, 2, 2);
        // 7 is above 15: GLASS 0 by 3, then 12 is to let it through: it never goes up there.
        Due.is("never", x.spins(0, 7, -1), Due.NONE);
        GlassTax y = new GlassTax();
        y.person(16, 1);
        y.glass(0, 18, 0);
        y.glass(0, 2, 0);
        y.glass(0, 58, 1);
        // Up to 2 and right, 3 .. 7; or down to 58 and right by TURN 1: 59 .. 63.
        isRow("as they are", y, 3);
        isRow("one: GLASS 0", y, 58, 0, 1);
        isRow("one: GLASS 1 throws left", y, 1, 1, 1);
        isRow("one: GLASS 0 alone, for 58 throws right as it is", y, 63, 0, 1);
        isRow("two: GLASSES 0 and 2, TURN 0 of the other", y, 56, 0, 1, 2, 0);
        y.spin(0, 3);
        y.spin(1, 3);
        isRow("two: both by TURN 0", y, 3, 0, 0, 1, 0);
        isRow("two: TURN 0 and TURN 1", y, 1, 0, 0, 1, 1);
    }

    private static void spinsErrors() {
        Due.says(26, "BEYOND.");
        GlassTax x = new GlassTax();
        Due.is("nobody", x.spins(0, 0, -1), Due.BEYOND);
        x.person(0, 1);
        int[][] beyond = {{-1, 0, 0}, {1, 0, 0}, {0, -1, 0}, {0, 64, 0}, {0, 0, -2}, {0, 0, 4}, {0, 0, Integer.MIN_VALUE},
            {0, 0, Integer.MAX_VALUE}, {0, Integer.MAX_VALUE, -1}, {0, 63, 4}, {1, 63, -1}};
        for (int[] b : beyond) {
            Due.is("spins " + b[0] + " " + b[1] + " " + b[2], x.spins(b[0], b[1], b[2]), Due.BEYOND);
        }
        Due.says(26, "NONE: not by 2.");
        for (int what = -1; what <= 3; what++) {
            Due.is("no GLASS, what " + what, x.spins(0, 63, what), Due.NONE);
        }
        Due.is("told", x.told(2), 5);
    }

    private static GlassTax street(int[][] glasses) {
        GlassTax x = new GlassTax();
        for (int[] g : glasses) {
            x.glass(g[1], g[0], g[2]);
        }
        return x;
    }

    private static void odds() {
        Due.says(27, "ODDS: part 0 above, 1 below the line.");
        Due.says(0, "ODDS: that a LOOK from any of the CELLS by any of the WAYS, each as likely, is EVER: "
            + "a fraction in lowest terms (0 is 0 by 1).");
        int[][][] glasses = {
            {}, {{3, 30, 0}}, {{60, 0, 2}, {61, 30, 0}}, {{3, 30, 0}, {5, 30, 0}}, {{46, 40, 3}, {43, 30, 0}},
            {{0, 0, 0}, {7, 0, 1}, {56, 0, 1}, {63, 0, 0}}, {{0, 30, 0}, {7, 30, 0}}, {{0, 30, 0}, {4, 30, 0}},
            // Up the first column to 8, right to 11, down through the spoon at 27 to a lake, and back to the spoon for ever.
            {{8, 0, 0}, {11, 0, 1}, {27, 10, 3}, {43, 30, 0}},
        };
        int[][] odds = {{0, 1}, {0, 1}, {1, 128}, {1, 64}, {11, 256}, {7, 32}, {7, 128}, {1, 32}, {15, 256}};
        for (int i = 0; i < glasses.length; i++) {
            GlassTax x = street(glasses[i]);
            Due.is("odds 0 of " + i, x.odds(0), odds[i][0]);
            Due.is("odds 1 of " + i, x.odds(1), odds[i][1]);
        }
        Due.says(27, "BEYOND.");
        int[] beyond = {-1, 2, Integer.MIN_VALUE, Integer.MAX_VALUE};
        for (int part : beyond) {
            Due.is("part " + part, new GlassTax().odds(part), Due.BEYOND);
        }
    }

    private static void put(GlassTax x, int sheet, int bits, int... cells) {
        x.sheet(sheet, bits, cells.length);
        for (int i = 0; i < cells.length; i++) {
            x.put(sheet, i, cells[i]);
        }
    }

    private static void fits() {
        Due.says(28, "FITS, by a SHEET: what 0 how many, 1 the least.");
        Due.says(0, "FITS: a SHEET tells the CELLS in which a LOOK is, from the first on (there may be more): "
            + "how many of the 256 LOOKS are so, the least (4 times the CELL, and the WAY).");
        GlassTax x = new GlassTax();
        for (int i = 0; i < 3; i++) {
            int bits = 8 << i;
            put(x, i, bits);
            Due.is("no number", x.fits(i, 0), 256);
            Due.is("no number", x.fits(i, 1), 0);
            put(x, i, bits, 0);
            Due.is("the least CELL", x.fits(i, 0), 4);
            Due.is("the least CELL", x.fits(i, 1), 0);
            put(x, i, bits, 63);
            Due.is("the greatest CELL", x.fits(i, 0), 4);
            Due.is("the greatest CELL", x.fits(i, 1), 252);
            put(x, i, bits, 63, 62);
            Due.is("the greatest LOOK", x.fits(i, 0), 1);
            Due.is("the greatest LOOK", x.fits(i, 1), 255);
            put(x, i, bits, 56, 57, 58, 59, 60, 61, 62, 63);
            Due.is("all of it", x.fits(i, 1), 56 * 4 + 1);
            put(x, i, bits, 56, 57, 58, 59, 60, 61, 62);
            Due.is("one less", x.fits(i, 1), 56 * 4 + 1);
            put(x, i, bits, 56, 57, 58, 59, 60, 61, 62, 63, 63);
            Due.is("one more", x.fits(i, 0), 0);
            put(x, i, bits, 57, 58, 59, 60, 61, 62, 63, 56);
            Due.is("the last one another", x.fits(i, 0), 0);
            put(x, i, bits, 57, 57);
            Due.is("not from the first on", x.fits(i, 0), 0);
        }
    }

    private static void fitsMore() {
        GlassTax x = street(new int[][] {{3, 30, 0}, {5, 30, 0}});
        int[] four = {4, 5, 4, 3};
        int[] cells = new int[24];
        for (int i = 0; i < 24; i++) {
            cells[i] = four[i % 4];
        }
        put(x, 0, 8, cells);
        Due.is("24 of one that is EVER", x.fits(0, 0), 1);
        Due.is("24 of one that is EVER", x.fits(0, 1), 4 * 4 + 1);
        x.put(0, 23, 4);
        Due.is("the 24th another", x.fits(0, 0), 0);
        put(x, 1, 32, 64);
        Due.is("no CELL 64", x.fits(1, 0), 0);
        put(x, 1, 32, -1);
        Due.is("no CELL -1", x.fits(1, 0), 0);
        put(x, 1, 32, 256 + 4);
        Due.is("no CELL 260", x.fits(1, 0), 0);
        put(x, 1, 8, 256 + 4);
        Due.is("its lowest bits", x.fits(1, 0), 4);
        put(x, 1, 16, 65536 + 4);
        Due.is("its lowest bits", x.fits(1, 0), 4);
        put(x, 1, 16, 256 + 4);
        Due.is("no CELL 260", x.fits(1, 0), 0);
        put(x, 2, 8, 7, 6, 5, 6, 7);
        Due.is("one alone goes so", x.fits(2, 1), 7 * 4 + 3);
        put(x, 2, 8, 7);
        Due.is("four LOOKS begin there", x.fits(2, 0), 4);
    }

    private static void fitsErrors() {
        GlassTax x = new GlassTax();
        put(x, 0, 8, 9, 9);
        Due.says(28, "BEYOND.");
        int[][] beyond = {{-1, 0}, {4, 0}, {0, -1}, {0, 2}, {Integer.MIN_VALUE, 0}, {0, Integer.MAX_VALUE}};
        for (int[] b : beyond) {
            Due.is("fits " + b[0] + " " + b[1], x.fits(b[0], b[1]), Due.BEYOND);
        }
        Due.is("BEYOND is asked ahead of NONE", x.fits(3, 2), Due.BEYOND);
        Due.is("BEYOND is asked ahead of NONE", x.fits(0, 2), Due.BEYOND);
        Due.says(28, "NONE: the SHEET is missing; (what 1) there is none.");
        Due.is("missing, what 0", x.fits(3, 0), Due.NONE);
        Due.is("missing, what 1", x.fits(3, 1), Due.NONE);
        Due.is("there is none, what 0", x.fits(0, 0), 0);
        Due.is("there is none, what 1", x.fits(0, 1), Due.NONE);
        x.sheet(0, 0, 0);
        Due.is("missing again", x.fits(0, 0), Due.NONE);
        Due.is("told", x.told(2), 4);
    }
}
