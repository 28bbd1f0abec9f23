/** The boundary cases of promises 21 to 23, and of what the Terms say of a LOOK, EVER and TAX. */
final class LookBounds {
    /** GLASSES that throw a LOOK from 17 by the right through 95 CELLS, the most that a search found, and yet it ENDS. */
    private static final int[][] LONG = {{48, 30, 0}, {7, 40, 0}, {63, 0, 0}, {17, 40, 3}, {22, 0, 1}, {54, 0, 0}, {57, 0, 1},
        {0, 0, 0}};

    private LookBounds() {
    }

    static void run() {
        begins();
        ends();
        meets();
        beginsInAGlass();
        ever();
        longButNotEver();
        tax();
        look();
        at();
        sees();
    }

    private static GlassTax street(int[][] glasses) {
        GlassTax x = new GlassTax();
        for (int[] g : glasses) {
            x.glass(g[1], g[0], g[2]);
        }
        return x;
    }

    private static void isRow(GlassTax x, int cell, int way, int... cells) {
        for (int i = 0; i < cells.length; i++) {
            Due.is("at " + cell + " " + way + " " + i, x.at(cell, way, i), cells[i]);
        }
        Due.is("no more at " + cell + " " + way, x.at(cell, way, cells.length), Due.NONE);
        Due.is("CELLS of " + cell + " " + way, x.look(cell, way, 1), cells.length);
        Due.is("END of " + cell + " " + way, x.look(cell, way, 0), cells[cells.length - 1]);
    }

    private static void begins() {
        Due.says(0, "A LOOK begins in a CELL with a WAY; again and again it is in the next CELL that WAY "
            + "(if there is none, it ENDS where it is);");
        GlassTax x = new GlassTax();
        isRow(x, 0, 0, 0);
        isRow(x, 0, 3, 0);
        isRow(x, 7, 1, 7);
        isRow(x, 8, 3, 8);
        isRow(x, 15, 1, 15);
        isRow(x, 63, 1, 63);
        isRow(x, 63, 2, 63);
        isRow(x, 1, 3, 1, 0);
        isRow(x, 6, 1, 6, 7);
        isRow(x, 8, 0, 8, 0);
        isRow(x, 55, 2, 55, 63);
        isRow(x, 0, 1, 0, 1, 2, 3, 4, 5, 6, 7);
        isRow(x, 63, 0, 63, 55, 47, 39, 31, 23, 15, 7);
    }

    private static void ends() {
        Due.says(0, "if a GLASS is there whose ONWARD is another WAY (or END), it MEETS that, and goes on so, or ENDS.");
        GlassTax x = street(new int[][] {{9, 60, 2}, {63, 30, 0}, {56, 0, 0}});
        isRow(x, 8, 1, 8, 9, 8);
        isRow(x, 55, 2, 55, 63, 55, 47, 39, 31, 23, 15, 7);
        isRow(x, 48, 2, 48, 56);
        Due.is("it MEETS one, and ENDS at the wall behind it", x.look(48, 2, 2), 1);
        x.person(8, 1);
        x.hours(1);
        isRow(x, 8, 1, 8, 9);
        isRow(x, 1, 2, 1, 9);
        isRow(x, 9, 1, 9, 10, 11, 12, 13, 14, 15);
        Due.is("it MEETS that in which it ENDS", x.look(1, 2, 2), 1);
        Due.is("and that costs", Due.text(x, 0, "7") == 1 ? x.look(1, 2, 3) : -1, 7);
        Due.is("an hour on it is SEEN again", x.hours(1), 2);
        Due.is("also where the LOOK ENDS in it", x.glassIs(0, 4), 2);
    }

    /** None is met whose ONWARD is the WAY itself. */
    private static void meets() {
        GlassTax x = street(new int[][] {{19, 9, 2}, {27, 9, 3}, {35, 28, 0}, {43, 19, 2}, {51, 54, 2}});
        x.hour(12);
        isRow(x, 59, 0, 59, 51, 43, 35, 27, 35, 43, 51, 59);
        Due.is("by day that at 27 alone", x.look(59, 0, 2), 1);
        Due.is("which costs 9", x.look(59, 0, 3), 9);
        x.hour(18);
        isRow(x, 59, 0, 59, 51, 43, 35, 36, 37, 38, 39);
        Due.is("by NIGHT the pane alone", x.look(59, 0, 2), 1);
        Due.is("which costs 8", x.look(59, 0, 3), 8);
        x.spin(2, 2);
        x.spin(1, 2);
        isRow(x, 59, 0, 59, 51, 43, 35, 27, 19, 11, 3);
        Due.is("none of the five", x.look(59, 0, 2), 0);
        Due.is("which costs nothing", x.look(59, 0, 3), 0);
    }

    private static void beginsInAGlass() {
        Due.says(0, "(The GLASS in the CELL in which it begins matters only when it comes back.)");
        GlassTax x = street(new int[][] {{3, 35, 0}});
        isRow(x, 3, 1, 3, 4, 5, 6, 7);
        isRow(x, 3, 2, 3, 11, 19, 27, 35, 43, 51, 59);
        isRow(x, 3, 0, 3);
        Due.is("it is not met", x.look(3, 1, 2), 0);
        x.glass(34, 5, 0);
        Due.is("it comes back, to a lake", x.look(3, 1, 0), Due.NONE);
        x.become(0, 2);
        isRow(x, 3, 1, 3, 4, 5, 4, 3, 11, 19, 27, 35, 43, 51, 59);
        Due.is("it comes back, and MEETS it", x.look(3, 1, 2), 2);
        Due.is("which costs", x.look(3, 1, 3), 4 + 2);
        x.become(0, 62);
        x.person(2, 1);
        x.hours(3);
        isRow(x, 3, 1, 3, 4, 5, 4, 3);
        Due.is("it comes back, and ENDS where it began", x.look(3, 1, 0), 3);
        Due.is("it comes back, and MEETS it", x.look(3, 1, 2), 2);
    }

    private static void ever() {
        Due.says(0, "It is EVER, if it would be in more than 257 CELLS, the one in which it begins and those that come again "
            + "counted, too.");
        GlassTax x = street(new int[][] {{3, 30, 0}, {5, 30, 0}});
        int[] four = {4, 5, 4, 3};
        for (int i = 0; i <= 256; i++) {
            Due.is("at 4 1 " + i, x.at(4, 1, i), four[i % 4]);
        }
        Due.is("at 257", x.at(4, 1, 257), Due.NONE);
        Due.is("between two that stand side by side", x.hang(0, 4), 3);
        Due.is("EVER", x.look(5, 3, 0), Due.NONE);
        Due.is("the 257th", x.at(5, 3, 256), 5);
        Due.is("the 256th", x.at(5, 3, 255), 4);
        Due.is("the 258th", x.at(5, 3, 257), Due.NONE);
        GlassTax y = street(new int[][] {{46, 40, 3}, {43, 30, 0}});
        // A bowl throws two ways the same way, so that a LOOK comes into its round from outside.
        int[] into = {6, 14, 22, 30, 38, 46};
        int[] round = {45, 44, 43, 44, 45, 46};
        for (int i = 0; i <= 256; i++) {
            if (i < 20 || i > 250) {
                Due.is("at 6 2 " + i, y.at(6, 2, i), i < 6 ? into[i] : round[i % 6]);
            }
        }
        Due.is("EVER", y.look(6, 2, 1), Due.NONE);
        Due.is("EVER", y.look(6, 2, 3), 999);
        GlassTax z = street(new int[][] {{0, 0, 0}, {7, 0, 1}, {56, 0, 1}, {63, 0, 0}});
        Due.is("28 round", z.look(1, 1, 0), Due.NONE);
        Due.is("the 253rd, nine times round", z.at(1, 1, 252), 1);
        Due.is("the 257th", z.at(1, 1, 256), 5);
        Due.is("the 258th", z.at(1, 1, 257), Due.NONE);
    }

    private static void longButNotEver() {
        GlassTax x = street(LONG);
        Due.is("CELLS", x.look(17, 1, 1), 95);
        Due.is("it ENDS", x.look(17, 1, 0), 1);
        Due.is("it MEETS", x.look(17, 1, 2), 15);
        int[] cells = {17, 18, 19, 20, 21, 22, 30, 38, 46, 54, 53, 52, 51, 50, 49, 48, 49, 50, 51, 52, 53, 54, 46, 38, 30, 22, 21,
            20, 19, 18, 17, 25, 33, 41, 49, 57, 58, 59, 60, 61, 62, 63, 55, 47, 39, 31, 23, 15, 7, 6, 5, 4, 3, 2, 1, 0, 8, 16, 24,
            32, 40, 48, 40, 32, 24, 16, 8, 0, 1, 2, 3, 4, 5, 6, 7, 15, 23, 31, 39, 47, 55, 63, 62, 61, 60, 59, 58, 57, 49, 41, 33,
            25, 17, 9, 1};
        isRow(x, 17, 1, cells);
        Due.text(x, 0, "n");
        Due.is("1 and 2 and .. and 15", x.look(17, 1, 3), 120);
    }

    private static void tax() {
        Due.says(0, "TAX of a LOOK: for each GLASS that it MEETS, one behind the other, FEE more (999 at most); "
            + "if it is EVER: 999.");
        // Round six corners to a lake and all the way back: 13 are met.
        GlassTax x = street(new int[][] {{7, 0, 1}, {63, 1, 0}, {56, 2, 1}, {8, 3, 0}, {14, 4, 1}, {54, 5, 0}, {50, 39, 0}});
        Due.is("MEETS", x.look(0, 1, 2), 13);
        Due.is("each by its m, one behind the other", x.look(0, 1, 3), 2 * (0 + 1 + 2 + 3 + 4 + 5) + 9);
        String[] fees = {"0", "1", "(n<11)*99+(n=11)*8", "(n<11)*99+(n=11)*9", "(n<11)*99+(n=11)*10", "99", "76", "77", "0-5"};
        int[] tax = {0, 13, 998, 999, 999, 999, 988, 999, 0};
        for (int i = 0; i < fees.length; i++) {
            Due.is("FEE read", Due.text(x, 0, fees[i]), 1);
            Due.is("TAX by FEE " + fees[i], x.look(0, 1, 3), tax[i]);
        }
        Due.is("none met", x.look(0, 3, 3), 0);
        GlassTax y = street(new int[][] {{3, 30, 0}, {5, 30, 0}});
        Due.is("EVER without a FEE", y.look(4, 1, 3), 999);
        Due.text(y, 0, "0");
        Due.is("EVER by FEE 0", y.look(4, 1, 3), 999);
        Due.text(y, 0, "99");
        Due.is("EVER by FEE 99", y.look(4, 1, 3), 999);
        Due.is("not EVER by FEE 99", y.look(2, 1, 3), 99);
    }

    private static void look() {
        Due.says(21, "Of a LOOK: 0 the CELL in which it ENDS, 1 in how many CELLS it is "
            + "(that in which it begins, and those that come again, counted), 2 how many GLASSES it MEETS, 3 TAX.");
        GlassTax x = street(new int[][] {{2, 37, 0}, {60, 30, 0}, {62, 30, 0}});
        int[][] is = {{0, 5, 1, 7}, {7, 4, 0, 0}, {0, 1, 0, 0}};
        int[][] from = {{0, 1}, {4, 1}, {0, 0}};
        for (int i = 0; i < from.length; i++) {
            for (int what = 0; what < 4; what++) {
                Due.is("look " + from[i][0] + " " + from[i][1] + " " + what, x.look(from[i][0], from[i][1], what), is[i][what]);
            }
        }
        Due.is("the greatest CELL and WAY", x.look(63, 3, 1), 3);
        Due.says(21, "BEYOND.");
        int[][] beyond = {{-1, 0, 0}, {64, 0, 0}, {0, -1, 0}, {0, 4, 0}, {0, 0, -1}, {0, 0, 4}, {64, 4, 4},
            {Integer.MIN_VALUE, 0, 3}, {0, Integer.MAX_VALUE, 3}};
        for (int[] b : beyond) {
            Due.is("look " + b[0] + " " + b[1] + " " + b[2], x.look(b[0], b[1], b[2]), Due.BEYOND);
        }
        Due.says(21, "NONE: it is EVER (what 0 .. 2).");
        for (int what = 0; what < 3; what++) {
            Due.is("EVER, what " + what, x.look(61, 1, what), Due.NONE);
        }
        Due.is("EVER, what 3", x.look(61, 1, 3), 999);
        Due.is("BEYOND is asked ahead of NONE", x.look(61, 1, 4), Due.BEYOND);
        Due.is("BEYOND is asked ahead of NONE", x.look(61, 1, -1), Due.BEYOND);
        Due.is("told", x.told(2), 3);
    }

    private static void at() {
        Due.says(22, "The i-th CELL (from 0: that in which it begins) in which a LOOK is.");
        GlassTax x = street(new int[][] {{2, 37, 0}, {60, 30, 0}, {62, 30, 0}});
        isRow(x, 0, 1, 0, 1, 2, 1, 0);
        isRow(x, 63, 3, 63, 62, 63);
        Due.says(22, "BEYOND: also i below 0.");
        Due.is("i -1", x.at(0, 1, -1), Due.BEYOND);
        Due.is("i MIN", x.at(0, 1, Integer.MIN_VALUE), Due.BEYOND);
        Due.is("i -1 of one that is EVER", x.at(61, 1, -1), Due.BEYOND);
        Due.is("cell -1", x.at(-1, 1, 0), Due.BEYOND);
        Due.is("cell 64", x.at(64, 1, 0), Due.BEYOND);
        Due.is("way -1", x.at(0, -1, 0), Due.BEYOND);
        Due.is("way 4", x.at(0, 4, 0), Due.BEYOND);
        Due.is("BEYOND is asked ahead of NONE", x.at(0, 4, 99), Due.BEYOND);
        Due.says(22, "NONE: there is none (of one that is EVER the first 257 are told).");
        Due.is("i 5 of 5", x.at(0, 1, 5), Due.NONE);
        Due.is("i 1 of 1", x.at(0, 0, 1), Due.NONE);
        Due.is("i MAX", x.at(0, 1, Integer.MAX_VALUE), Due.NONE);
        Due.is("i 256 of one that is EVER", x.at(61, 1, 256), 61);
        Due.is("i 257 of one that is EVER", x.at(61, 1, 257), Due.NONE);
        Due.is("i MAX of one that is EVER", x.at(61, 1, Integer.MAX_VALUE), Due.NONE);
    }

    private static void sees() {
        Due.says(23, "PEOPLE (oneself, too) who STAND in CELLS that one's LOOK SEES, as a set.");
        Due.says(0, "A LOOK SEES all CELLS in which it is, that in which it begins, too.");
        GlassTax x = street(new int[][] {{2, 37, 0}, {60, 30, 0}, {62, 30, 0}});
        int[][] places = {{0, 1}, {1, 1}, {2, 2}, {3, 3}, {0, 0}, {61, 1}};
        for (int[] p : places) {
            x.person(p[0], p[1]);
        }
        int[] sets = {1 + 2 + 4 + 16, 1 + 2 + 4 + 16, 4, 4 + 8, 1 + 16, 32};
        for (int i = 0; i < 6; i++) {
            Due.is("sees " + i, x.sees(i), sets[i]);
        }
        for (int i = 0; i < 6; i++) {
            x.stand(i, 7, 0);
        }
        Due.is("all six, in one CELL", x.sees(5), 63);
        x.stand(0, 60, 2);
        x.stand(1, 62, 1);
        x.stand(2, 61, 3);
        x.stand(3, 59, 1);
        x.stand(4, 63, 1);
        Due.is("EVER, from between", x.sees(2), 1 + 2 + 4);
        Due.is("where one begins in a lake", x.sees(1), 2 + 16);
        Due.is("the wall alone", x.sees(0), 1);
        Due.is("to a lake and back", x.sees(3), 1 + 8);
        Due.says(23, "BEYOND.");
        Due.is("sees -1", x.sees(-1), Due.BEYOND);
        Due.is("sees 6 of 6", x.sees(6), Due.BEYOND);
        Due.is("sees 0 of none", new GlassTax().sees(0), Due.BEYOND);
    }
}
