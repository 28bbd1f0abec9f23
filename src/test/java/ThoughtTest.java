/** Promises 21 to 28: what would be, and that it changes nothing. */
public final class ThoughtTest {
    public static void main(String[] args) {
        empty();
        look();
        longest();
        at();
        sees();
        then();
        starts();
        spins();
        spinsInOrder();
        odds();
        fits();
        Due.end();
    }

    private static void empty() {
        GlassTax x = new GlassTax();
        for (int i = 0; i < 256; i++) {
            int row = i / 32;
            int place = i / 4 % 8;
            int[] ends = {place, 8 * row + 7, 56 + place, 8 * row};
            int[] many = {row, 7 - place, 7 - row, place};
            if (i % 7 < 2) {
                Due.is("look " + i, x.look(i / 4, i % 4, 0), ends[i % 4]);
                Due.is("look " + i, x.look(i / 4, i % 4, 1), 1 + many[i % 4]);
                Due.is("look " + i, x.look(i / 4, i % 4, 3), 0);
            }
        }
    }

    private static void look() {
        GlassTax x = new GlassTax();
        int[][] beyond = {{-1, 0, 0}, {64, 0, 0}, {0, -1, 0}, {0, 4, 0}, {0, 0, -1}, {0, 0, 4}};
        for (int[] b : beyond) {
            Due.is("look", x.look(b[0], b[1], b[2]), Due.BEYOND);
        }
        x.glass(25, 3, 0);
        x.hour(12);
        Due.is("a pane by day is not met", x.look(0, 1, 2), 0);
        Due.is("and costs nothing", x.look(0, 1, 3), 0);
        x.hour(20);
        Due.is("by night", x.look(0, 1, 2), 1);
        Due.is("by night", x.look(0, 1, 3), 5);
        Due.is("by night", x.look(0, 1, 0), 3);
        x.hang(0, 11);
        x.spin(0, 2);
        Due.is("one that stays as it was is not met", x.look(3, 2, 2), 0);
        Due.is("the glass where it begins", x.look(11, 1, 2), 0);
        tax();
    }

    /** Round six corners to a lake and all the way back: 13 are met, and the look ENDS where it began. */
    private static void tax() {
        GlassTax x = new GlassTax();
        int[] cells = {7, 63, 56, 8, 14, 54};
        for (int i = 0; i < cells.length; i++) {
            x.glass(i, cells[i], (i + 1) % 2);
        }
        x.spin(3, 0);
        x.spin(4, 1);
        x.spin(5, 0);
        x.glass(39, 50, 0);
        Due.is("MEETS", x.look(0, 1, 2), 13);
        Due.is("ENDS", x.look(0, 1, 0), 0);
        Due.is("TAX by m", x.look(0, 1, 3), 2 * (1 + 2 + 3 + 4 + 5) + 9);
        Due.text(x, 0, "76");
        Due.is("TAX", x.look(0, 1, 3), 988);
        Due.text(x, 0, "77");
        Due.is("TAX held", x.look(0, 1, 3), 999);
        Due.text(x, 0, "n");
        Due.is("TAX by n", x.look(0, 1, 3), 13 * 14 / 2);
        Due.text(x, 0, "k*n");
        Due.is("TAX by k", x.look(0, 1, 3), 3 * 7);
        Due.text(x, 0, "500");
        Due.is("FEE held", x.look(50, 2, 3), 0);
        Due.is("FEE held", x.look(4, 1, 3), 999);
        Due.is("FEE held", x.look(61, 0, 3), 0);
        Due.is("FEE held", x.look(49, 1, 3), 99);
    }

    private static void longest() {
        GlassTax x = new GlassTax();
        x.glass(0, 0, 0);
        x.glass(0, 7, 1);
        x.glass(0, 56, 1);
        x.glass(0, 63, 0);
        Due.is("round and round", x.look(1, 1, 0), Due.NONE);
        Due.is("round and round", x.look(1, 1, 1), Due.NONE);
        Due.is("round and round", x.look(1, 1, 2), Due.NONE);
        Due.is("round and round", x.look(1, 1, 3), 999);
        Due.is("the 257th", x.at(1, 1, 256), 5);
        Due.is("the 258th", x.at(1, 1, 257), Due.NONE);
        GlassTax y = new GlassTax();
        y.glass(39, 8, 0);
        y.glass(9, 10, 2);
        y.glass(69, 13, 2);
        Due.is("lake to glass", y.look(9, 1, 0), Due.NONE);
    }

    private static void at() {
        GlassTax x = new GlassTax();
        x.glass(0, 2, 1);
        int[] cells = {0, 1, 2, 10, 18, 26, 34, 42, 50, 58};
        for (int i = 0; i < cells.length; i++) {
            Due.is("at " + i, x.at(0, 1, i), cells[i]);
        }
        Due.is("at 10", x.at(0, 1, 10), Due.NONE);
        Due.is("at MAX", x.at(0, 1, Integer.MAX_VALUE), Due.NONE);
        Due.is("at -1", x.at(0, 1, -1), Due.BEYOND);
        Due.is("cell 64", x.at(64, 1, 0), Due.BEYOND);
        Due.is("way 4", x.at(0, 4, 99), Due.BEYOND);
    }

    private static void sees() {
        GlassTax x = new GlassTax();
        x.person(0, 1);
        x.person(7, 0);
        x.person(3, 3);
        x.person(3, 2);
        x.person(63, 0);
        Due.is("sees", x.sees(0), 1 + 2 + 4 + 8);
        Due.is("sees", x.sees(1), 2);
        Due.is("sees", x.sees(2), 1 + 4 + 8);
        Due.is("sees", x.sees(3), 4 + 8);
        Due.is("sees", x.sees(4), 16 + 2);
        Due.is("sees 5", x.sees(5), Due.BEYOND);
        Due.is("sees -1", x.sees(-1), Due.BEYOND);
        x.glass(30, 6, 0);
        x.glass(30, 62, 0);
        x.stand(4, 14, 2);
        Due.is("sees, EVER", x.look(14, 2, 0), Due.NONE);
        Due.is("sees, EVER", x.sees(4), 16);
    }

    private static void then() {
        GlassTax x = new GlassTax();
        x.glass(61, 2, 1);
        x.glass(36, 10, 0);
        x.person(0, 1);
        x.person(0, 1);
        int[] first = {0, 8, 9, 10, 11};
        int[] second = {0, 1, 2, 3, 4};
        for (int n = 0; n < first.length; n++) {
            Due.is("then(0, " + n + ")", x.then(0, n), first[n]);
            Due.is("then(1, " + n + ")", x.then(1, n), second[n]);
        }
        Due.is("only thought", x.personIs(0, 2), 0);
        Due.is("only thought", x.glassIs(0, 4), 0);
        Due.is("only thought", x.count(2), 0);
        Due.is("then -1", x.then(0, -1), Due.BEYOND);
        Due.is("then 49", x.then(0, 49), Due.BEYOND);
        Due.is("then of 2", x.then(2, 0), Due.BEYOND);
        Due.text(x, 1, "h");
        x.hour(9999);
        int owes = 0;
        for (int h = 9999; h < 9999 + 48; h++) {
            owes += h % 24;
        }
        Due.is("beyond 9999", x.then(0, 48), owes);
        Due.is("only thought", x.count(2), 9999);
    }

    private static void starts() {
        GlassTax x = new GlassTax();
        Due.is("cell 64", x.starts(64, 0), Due.BEYOND);
        Due.is("cell -1", x.starts(-1, 0), Due.BEYOND);
        Due.is("what 2", x.starts(0, 2), Due.BEYOND);
        Due.is("what -1", x.starts(0, -1), Due.BEYOND);
        for (int cell = 0; cell < 64; cell += 9) {
            Due.is("starts, empty", x.starts(cell, 0), 14);
            Due.is("the least", x.starts(cell, 1), cell / 8 > 0 ? 4 * (cell % 8) + 2 : 7);
        }
        // Lakes all round a corner: none from elsewhere sees it.
        x.glass(30, 1, 0);
        x.glass(30, 8, 0);
        Due.is("starts, shut in", x.starts(0, 0), 2);
        Due.is("starts, shut in", x.starts(0, 1), 7);
        Due.is("from the lake itself", x.look(1, 3, 0), 0);
        x.glass(30, 2, 0);
        Due.is("a look that begins at the cell does not count", x.starts(2, 0), 13);
    }

    private static void spins() {
        GlassTax x = new GlassTax();
        Due.is("spins of 0", x.spins(0, 0, -1), Due.BEYOND);
        x.person(8, 1);
        Due.is("to 64", x.spins(0, 64, -1), Due.BEYOND);
        Due.is("to -1", x.spins(0, -1, -1), Due.BEYOND);
        Due.is("what -2", x.spins(0, 0, -2), Due.BEYOND);
        Due.is("what 4", x.spins(0, 0, 4), Due.BEYOND);
        Due.is("no glass", x.spins(0, 0, -1), Due.NONE);
        Due.is("no glass", x.spins(0, 15, -1), 0);
        Due.is("no glass", x.spins(0, 15, 3), -1);
        x.glass(0, 10, 0);
        Due.is("up", x.spins(0, 2, -1), 0);
        Due.is("down", x.spins(0, 58, -1), 1);
        Due.is("down", x.spins(0, 58, 0), 0);
        Due.is("down", x.spins(0, 58, 1), 1);
        Due.is("down", x.spins(0, 58, 2), -1);
        Due.is("through", x.spins(0, 15, -1), 1);
        Due.is("through", x.spins(0, 15, 1), 3);
        Due.is("never", x.spins(0, 17, -1), Due.NONE);
        Due.is("never", x.spins(0, 17, 3), Due.NONE);
        Due.is("only thought", x.glassIs(0, 3), 0);
    }

    private static void spinsInOrder() {
        GlassTax x = new GlassTax();
        x.person(8, 1);
        x.glass(30, 63, 2);
        x.glass(0, 14, 1);
        x.glass(0, 11, 0);
        Due.is("two", x.spins(0, 15, -1), 2);
        int[] row = {1, 3, 2, 3};
        for (int i = 0; i < 4; i++) {
            Due.is("two, " + i, x.spins(0, 15, i), row[i]);
        }
        Due.is("another way there is one", x.spins(0, 6, -1), 2);
        Due.is("with the first turn that is another", x.spins(0, 6, 1), 0);
        Due.is("one glass", x.spins(0, 62, -1), 1);
        Due.is("one glass", x.spins(0, 62, 0), 2);
        Due.is("one glass", x.spins(0, 62, 1), 3);
        x.glass(0, 13, 0);
        Due.is("three", x.spins(0, 15, -1), Due.NONE);
        firstGlassAndTurn();
        for (int i = 0; i < 4; i++) {
            Due.is("only thought", x.glassIs(i, 3), new int[] {2, 1, 0, 0}[i]);
        }
    }

    private static void firstGlassAndTurn() {
        GlassTax x = new GlassTax();
        x.person(8, 1);
        x.glass(0, 10, 2);
        Due.is("turn 0", x.spins(0, 2, -1), 1);
        Due.is("turn 0", x.spins(0, 2, 1), 0);
        x.glass(0, 13, 1);
        Due.is("the first and the second", x.spins(0, 5, -1), 2);
        int[] row = {0, 3, 1, 0};
        for (int i = 0; i < 4; i++) {
            Due.is("the first and the second, " + i, x.spins(0, 5, i), row[i]);
        }
    }

    private static void odds() {
        GlassTax x = new GlassTax();
        Due.is("part 2", x.odds(2), Due.BEYOND);
        Due.is("part -1", x.odds(-1), Due.BEYOND);
        Due.is("none", x.odds(0), 0);
        Due.is("by 1", x.odds(1), 1);
        x.glass(0, 0, 0);
        x.glass(0, 7, 1);
        x.glass(0, 56, 1);
        x.glass(0, 63, 0);
        int ever = 0;
        for (int i = 0; i < 256; i++) {
            ever += x.look(i / 4, i % 4, 0) == Due.NONE ? 1 : 0;
        }
        // 24 cells between by two ways, and 4 corners by two each.
        Due.is("EVER", ever, 56);
        Due.is("56 by 256", x.odds(0), 7);
        Due.is("56 by 256", x.odds(1), 32);
    }

    private static void fits() {
        GlassTax x = new GlassTax();
        Due.is("missing", x.fits(0, 0), Due.NONE);
        Due.is("sheet 4", x.fits(4, 0), Due.BEYOND);
        Due.is("sheet -1", x.fits(-1, 0), Due.BEYOND);
        Due.is("what 2", x.fits(0, 2), Due.BEYOND);
        Due.is("what -1", x.fits(0, -1), Due.BEYOND);
        x.sheet(0, 32, 1);
        x.put(0, 0, 9);
        Due.is("one cell", x.fits(0, 0), 4);
        Due.is("the least", x.fits(0, 1), 36);
        x.sheet(1, 32, 0);
        Due.is("no number", x.fits(1, 0), 256);
        Due.is("no number", x.fits(1, 1), 0);
        x.put(0, 0, 64);
        Due.is("no cell", x.fits(0, 0), 0);
        Due.is("no cell", x.fits(0, 1), Due.NONE);
        x.put(0, 0, -1);
        Due.is("no cell", x.fits(0, 0), 0);
        x.sheet(1, 16, 3);
        x.glass(30, 2, 0);
        x.put(1, 0, 1);
        x.put(1, 1, 2);
        x.put(1, 2, 1);
        Due.is("thrown back", x.fits(1, 0), 1);
        Due.is("thrown back", x.fits(1, 1), 5);
        x.sheet(2, 8, 9);
        for (int i = 0; i < 9; i++) {
            x.put(2, i, i % 8);
        }
        Due.is("more than there is", x.fits(2, 0), 0);
        x.sheet(2, 8, 3);
        for (int i = 0; i < 3; i++) {
            x.put(2, i, 47 + 8 * i);
        }
        Due.is("all of it", x.fits(2, 1), 4 * 47 + 2);
        x.sheet(3, 8, 24);
        x.glass(30, 4, 0);
        for (int i = 0; i < 24; i++) {
            x.put(3, i, i % 4 == 1 ? 4 : i % 4 == 3 ? 2 : 3);
        }
        Due.is("to and fro", x.fits(3, 0), 1);
        Due.is("to and fro", x.fits(3, 1), 13);
    }
}
