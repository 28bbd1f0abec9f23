/** What the document says ahead of its Terms, under 'What it is': each part of the sentence by a street that shows it. */
final class FirstLines {
    private static final int EVER = Due.NONE;

    private FirstLines() {
    }

    static void run() {
        street();
        kinds();
        silvered();
        ends();
        people();
        thought();
        draws();
        laws();
        calls();
    }

    private static void says(String part) {
        Due.says(Doc.WHAT_IT_IS, part);
    }

    /** One of a KIND, with m, in CELL 27 (row 3, place 3), TURN 0, which looks from all four sides come to. */
    private static GlassTax one(int km, int hour) {
        GlassTax x = new GlassTax();
        x.glass(km, 27, 0);
        x.hour(hour);
        return x;
    }

    /** Where the looks end that come up, right, down and left to CELL 27 (-1: where it goes on straight). */
    private static void thrown(String what, GlassTax x, int up, int right, int down, int left) {
        int[] from = {59, 24, 3, 31};
        int[] straight = {3, 31, 59, 24};
        int[] due = {up, right, down, left};
        for (int way = 0; way < 4; way++) {
            Due.is(what + ", by the WAY " + way, x.look(from[way], way, 0), due[way] < 0 ? straight[way] : due[way]);
            Due.is(what + ", met by the WAY " + way, x.look(from[way], way, 2), due[way] < 0 ? 0 : 1);
        }
    }

    private static void street() {
        says("A tax on reflections: mirrors are metered in a street of cells, and a look goes from cell to cell and is "
            + "thrown by glasses of kinds,");
        GlassTax x = one(4, 0);
        int[] cells = {24, 25, 26, 27, 19, 11, 3};
        for (int i = 0; i < cells.length; i++) {
            Due.is("at " + i, x.at(24, 1, i), cells[i]);
        }
        Due.is("there is no more", x.at(24, 1, cells.length), Due.NONE);
        Due.is("TAX", x.look(24, 1, 3), 4);
        Due.is("TAX of a look that meets none", x.look(16, 1, 3), 0);
        thrown("a glass", x, 31, 3, 24, 59);
    }

    private static void kinds() {
        says("spoons by the one side only,");
        thrown("a spoon", one(10, 12), 31, 3, -1, -1);
        says("panes by night,");
        thrown("a pane by night", one(20, 0), 31, 3, 24, 59);
        thrown("a pane by day", one(20, 12), -1, -1, -1, -1);
        says("lakes straight back,");
        thrown("a lake", one(30, 12), 59, 24, 3, 31);
        says("bowls, lamps,");
        thrown("a bowl", one(40, 12), 24, 59, 24, 59);
        thrown("a lamp by night", one(55, 0), 31, 3, 24, 59);
        thrown("a lamp by day", one(55, 12), 59, 24, 3, 31);
        thrown("a weak lamp by day", one(54, 12), -1, -1, -1, -1);
    }

    private static void silvered() {
        says("a silvered one that takes looks till it has had enough;");
        GlassTax x = one(62, 0);
        x.person(24, 1);
        for (int i = 0; i < 3; i++) {
            thrown("looks taken: " + i, x, 31, 3, 24, 59);
            x.hours(1);
        }
        thrown("it has had enough", x, 27, 27, 27, 27);
    }

    private static void ends() {
        says("it ends at a wall, or in a glass, or goes for ever between two, which is dearest;");
        GlassTax x = new GlassTax();
        Due.is("at a wall", x.look(8, 1, 0), 15);
        x.glass(60, 13, 0);
        x.person(8, 1);
        x.hours(1);
        Due.is("in a glass", x.look(8, 1, 0), 13);
        x.glass(30, 32, 0);
        x.glass(30, 39, 0);
        Due.is("for ever", x.look(33, 1, 0), EVER);
        Due.is("which is dearest", x.look(33, 1, 3), 999);
        Due.is("it goes on between the two", x.at(33, 1, 256), 33 + 256 % 14);
        x.hang(2, 31);
        Due.is("behind one alone, to a wall", x.look(33, 3, 0), 39);
    }

    private static void people() {
        says("people who look each hour and owe what a look comes to;");
        GlassTax x = one(4, 0);
        x.person(24, 1);
        x.person(16, 1);
        for (int hour = 1; hour <= 3; hour++) {
            Due.is("hours", x.hours(1), hour);
            Due.is("who meets a glass", x.personIs(0, 2), 4 * hour);
            Due.is("who meets none", x.personIs(1, 2), 0);
        }
    }

    private static void thought() {
        says("who is seen, from where a cell is seen, the fewest glasses to be turned so that somebody sees a cell, odds of "
            + "a look for ever, from where it was that one saw what is told;");
        GlassTax x = one(4, 0);
        x.person(24, 1);
        x.person(11, 2);
        x.person(31, 3);
        Due.is("who is seen", x.sees(0), 0b011);
        // From the row and the place of CELL 0, and nobody by the glass in CELL 27.
        Due.is("from where a cell is seen", x.starts(0, 0), 14);
        // From its row, from the two above, from CELL 27 below, and by the glass there from the three on its left.
        Due.is("from where CELL 19 is seen", x.starts(19, 0), 7 + 2 + 1 + 3);
        Due.is("glasses to be turned", x.spins(0, 59, -1), 1);
        Due.is("which", x.spins(0, 59, 0), 0);
        Due.is("its TURN", x.spins(0, 59, 1), 1);
        Due.is("odds", x.odds(0), 0);
        x.glass(30, 32, 0);
        x.glass(30, 39, 0);
        // From each of the six between, by right and by left, and from each of the two by the way to the other.
        Due.is("odds", x.odds(0), 7);
        Due.is("odds", x.odds(1), 128);
        int[] saw = {26, 27, 19};
        x.sheet(0, 8, 3);
        for (int i = 0; i < saw.length; i++) {
            x.put(0, i, saw[i]);
        }
        Due.is("from where it was", x.fits(0, 0), 1);
        Due.is("from where it was", x.fits(0, 1), 4 * 26 + 1);
    }

    private static void draws() {
        says("looks by draws;");
        GlassTax x = new GlassTax();
        x.person(0, 0);
        int z = 1103515245 + 12345;
        int place = ((z * 1103515245 + 12345) >>> 8) % 256;
        Due.is("loose", x.loose(1), 1);
        Due.is("the CELL", x.personIs(0, 0), place / 4);
        Due.is("the WAY", x.personIs(0, 1), place % 4);
    }

    private static void laws() {
        says("laws in texts, rows, images.");
        GlassTax x = one(4, 0);
        x.person(24, 1);
        x.image();
        Due.is("a law in a text", Due.text(x, 1, "t*2+1"), 1);
        Due.is("DUE by it", x.personIs(0, 3), 9);
        x.sheet(0, 8, 1);
        Due.is("a row", x.put(0, 0, 9), 1);
        Due.is("is right", x.judge(0), 1);
        Due.is("an image", x.restore(), 0);
        Due.is("DUE without the law", x.personIs(0, 3), 4);
        Due.is("the row is not right any more", x.judge(0), 0);
    }

    private static void calls() {
        says("An object is used for at most 512 calls after it has been made; what later calls answer is free.");
        GlassTax x = new GlassTax();
        for (int i = 0; i < 512; i++) {
            Due.is("call " + (i + 1), x.seed(i), i == 0 ? 1 : i - 1);
        }
    }
}
