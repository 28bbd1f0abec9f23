/** The boundary cases of promises 31 to 35, and of what the Terms say of SHEETS. */
final class SheetBounds {
    private SheetBounds() {
    }

    static void run() {
        sheets();
        sheetErrors();
        put();
        lowestBits();
        move();
        moveAsTheyWere();
        moveErrors();
        turnsOf();
        turnsOfErrors();
        judge();
        judgeErrors();
    }

    private static GlassTax eight() {
        GlassTax x = new GlassTax();
        for (int i = 0; i < 8; i++) {
            x.glass(0, i, 3);
        }
        return x;
    }

    /** The first numbers of a SHEET, as TURNS of eight GLASSES, up to the first that is none. */
    private static String turns(GlassTax x, int sheet) {
        StringBuilder text = new StringBuilder();
        int many = x.turnsOf(sheet);
        for (int i = 0; i < many; i++) {
            text.append(x.glassIs(i, 3));
        }
        return text.toString();
    }

    private static void putAll(GlassTax x, int sheet, int... numbers) {
        for (int i = 0; i < numbers.length; i++) {
            Due.is("put " + sheet + " " + i, x.put(sheet, i, numbers[i]), 1);
        }
    }

    private static void sheets() {
        Due.says(0, "SHEETS 0 .. 3 are rows of 8, 16, 32 bits, at most 24 numbers, or missing (as at first).");
        Due.says(31, "A SHEET has n numbers, all 0, of so many bits (8, 16, 32; 0: it is missing, n doesn't matter): 1.");
        GlassTax x = eight();
        for (int s = 0; s < 4; s++) {
            Due.is("missing at first", x.put(s, 0, 0), Due.NONE);
            for (int bits = 8; bits <= 32; bits *= 2) {
                Due.is("24 numbers", x.sheet(s, bits, 24), 1);
                Due.is("the last of 24", x.put(s, 23, 3), 1);
                Due.is("none behind it", x.put(s, 24, 3), Due.BEYOND);
                Due.is("8 numbers", x.sheet(s, bits, 8), 1);
                Due.isText("all 0", turns(x, s), "00000000");
                putAll(x, s, 1, 2, 3);
                Due.is("1 number", x.sheet(s, bits, 1), 1);
                Due.isText("all 0", turns(x, s), "0");
                Due.is("none behind it", x.put(s, 1, 3), Due.BEYOND);
                Due.is("no number", x.sheet(s, bits, 0), 1);
                Due.is("no number", x.put(s, 0, 3), Due.BEYOND);
            }
        }
        int[] any = {0, 1, -1, 24, 25, Integer.MIN_VALUE, Integer.MAX_VALUE};
        for (int n : any) {
            Due.is("a row", x.sheet(2, 8, 3), 1);
            Due.is("missing, n " + n, x.sheet(2, 0, n), 1);
            Due.is("it is missing", x.put(2, 0, 0), Due.NONE);
        }
        Due.is("missing already", x.sheet(2, 0, 0), 1);
        Due.is("longer again, all 0", x.sheet(0, 8, 8) + x.put(0, 7, 3) + x.sheet(0, 8, 2) + x.sheet(0, 8, 8), 4);
        Due.isText("all 0", turns(x, 0), "00000000");
    }

    private static void sheetErrors() {
        GlassTax x = eight();
        x.sheet(0, 16, 2);
        putAll(x, 0, 1, 2);
        Due.says(31, "BEYOND.");
        Due.is("sheet -1", x.sheet(-1, 8, 0), Due.BEYOND);
        Due.is("sheet 4", x.sheet(4, 8, 0), Due.BEYOND);
        Due.is("sheet 4, missing", x.sheet(4, 0, 0), Due.BEYOND);
        int[] bits = {-8, -1, 1, 7, 9, 15, 17, 24, 31, 33, 64, Integer.MIN_VALUE, Integer.MAX_VALUE};
        for (int b : bits) {
            Due.is("bits " + b, x.sheet(0, b, 1), Due.BEYOND);
        }
        Due.is("n 25", x.sheet(0, 8, 25), Due.BEYOND);
        Due.is("n MAX", x.sheet(0, 32, Integer.MAX_VALUE), Due.BEYOND);
        Due.says(31, "STATE: n is below 0 (ahead of BEYOND of n).");
        Due.is("n -1", x.sheet(0, 8, -1), Due.STATE);
        Due.is("n MIN", x.sheet(0, 16, Integer.MIN_VALUE), Due.STATE);
        Due.is("of no such SHEET BEYOND", x.sheet(4, 8, -1), Due.BEYOND);
        Due.is("of no such bits BEYOND", x.sheet(0, 24, -1), Due.BEYOND);
        Due.isText("the row stays", turns(x, 0), "12");
        Due.is("its bits stay", x.sheet(1, 16, 1) == 1 ? x.move(0, 0, 1, 0, 1) : 0, 1);
        Due.is("none came where one was missing", x.sheet(3, 8, -1) + x.sheet(3, 8, 25), Due.STATE + Due.BEYOND);
        Due.is("none came where one was missing", x.put(3, 0, 0), Due.NONE);
    }

    private static void put() {
        GlassTax x = eight();
        Due.says(32, "BEYOND: no such SHEET.");
        Due.is("sheet -1", x.put(-1, 0, 0), Due.BEYOND);
        Due.is("sheet 4", x.put(4, 0, 0), Due.BEYOND);
        Due.is("sheet MIN", x.put(Integer.MIN_VALUE, 0, 0), Due.BEYOND);
        Due.says(32, "NONE: it is missing.");
        Due.is("missing", x.put(3, 0, 0), Due.NONE);
        Due.is("NONE is asked ahead of BEYOND", x.put(3, -1, 0), Due.NONE);
        Due.is("NONE is asked ahead of BEYOND", x.put(3, 24, 0), Due.NONE);
        Due.says(32, "BEYOND: no such number.");
        x.sheet(3, 8, 3);
        Due.is("i -1", x.put(3, -1, 1), Due.BEYOND);
        Due.is("i 3", x.put(3, 3, 1), Due.BEYOND);
        Due.is("i MIN", x.put(3, Integer.MIN_VALUE, 1), Due.BEYOND);
        Due.is("i MAX", x.put(3, Integer.MAX_VALUE, 1), Due.BEYOND);
        Due.isText("all 0 still", turns(x, 3), "000");
        Due.is("i 0", x.put(3, 0, 1), 1);
        Due.is("i 2", x.put(3, 2, 3), 1);
        Due.isText("the first and the last", turns(x, 3), "103");
    }

    private static void lowestBits() {
        Due.says(32, "Number i of a SHEET becomes v (its lowest bits): 1.");
        GlassTax x = eight();
        x.sheet(0, 8, 4);
        x.sheet(1, 16, 4);
        x.sheet(2, 32, 4);
        int[] bits = {1 << 8 | 1, 1 << 16 | 2, 1 << 31 | 3, -256};
        for (int s = 0; s < 3; s++) {
            putAll(x, s, bits);
        }
        Due.isText("8 bits", turns(x, 0), "1230");
        Due.isText("16 bits", turns(x, 1), "");
        x.put(1, 0, 0);
        x.put(1, 2, 1 << 16 | 3);
        Due.isText("16 bits, -256 is none of 0 .. 3", turns(x, 1), "023");
        x.put(1, 3, -65536);
        Due.isText("16 bits, -65536 is 0", turns(x, 1), "0230");
        Due.isText("32 bits", turns(x, 2), "");
        putAll(x, 2, 3, 2, 1, 0);
        Due.isText("32 bits", turns(x, 2), "3210");
        x.put(2, 3, 1 << 31);
        Due.isText("32 bits", turns(x, 2), "321");
        putAll(x, 0, 4, -4);
        Due.isText("4", turns(x, 0), "");
        putAll(x, 0, 3, -253);
        Due.isText("-253 is 3", turns(x, 0), "3330");
    }

    private static void move() {
        Due.says(33, "n numbers of a SHEET, from number i on, come to another one (or the same), from its number j on, "
            + "as they all were: n.");
        GlassTax x = eight();
        x.sheet(0, 8, 8);
        x.sheet(1, 8, 5);
        putAll(x, 0, 0, 1, 2, 3, 0, 1, 2, 3);
        Due.is("none", x.move(0, 0, 1, 0, 0), 0);
        Due.is("none, behind the last of both", x.move(0, 8, 1, 5, 0), 0);
        Due.isText("none came", turns(x, 1), "00000");
        Due.is("the last to the last", x.move(0, 7, 1, 4, 1), 1);
        Due.isText("the last to the last", turns(x, 1), "00003");
        Due.is("the first to the first", x.move(0, 1, 1, 0, 1), 1);
        Due.isText("the first to the first", turns(x, 1), "10003");
        Due.is("as many as there is room", x.move(0, 3, 1, 0, 5), 5);
        Due.isText("as many as there is room", turns(x, 1), "30123");
        Due.isText("where they were they stay", turns(x, 0), "01230123");
        Due.is("as many as there are", x.move(1, 0, 0, 0, 5), 5);
        Due.isText("as many as there are", turns(x, 0), "30123123");
        x.sheet(2, 32, 24);
        x.sheet(3, 32, 24);
        x.put(2, 23, 2);
        Due.is("24", x.move(2, 0, 3, 0, 24), 24);
        Due.is("the last of 24 came", x.move(3, 23, 3, 0, 1), 1);
        Due.isText("the last of 24 came", turns(x, 3), "20000000");
    }

    private static void moveAsTheyWere() {
        GlassTax x = eight();
        x.sheet(0, 16, 8);
        putAll(x, 0, 0, 1, 2, 3, 3, 2, 1, 0);
        Due.is("one up", x.move(0, 0, 0, 1, 7), 7);
        Due.isText("one up", turns(x, 0), "00123321");
        Due.is("one down", x.move(0, 1, 0, 0, 7), 7);
        Due.isText("one down", turns(x, 0), "01233211");
        Due.is("to their own places", x.move(0, 0, 0, 0, 8), 8);
        Due.isText("to their own places", turns(x, 0), "01233211");
        Due.is("three up", x.move(0, 0, 0, 3, 5), 5);
        Due.isText("three up", turns(x, 0), "01201233");
        Due.is("three down", x.move(0, 3, 0, 0, 5), 5);
        Due.isText("three down", turns(x, 0), "01233233");
    }

    private static void moveErrors() {
        GlassTax x = eight();
        x.sheet(0, 8, 4);
        x.sheet(1, 16, 4);
        x.sheet(2, 16, 2);
        putAll(x, 1, 1, 2, 3, 0);
        Due.says(33, "BEYOND: no such SHEET.");
        Due.is("sheet -1", x.move(-1, 0, 1, 0, 0), Due.BEYOND);
        Due.is("sheet 4", x.move(4, 0, 1, 0, 0), Due.BEYOND);
        Due.is("other -1", x.move(1, 0, -1, 0, 0), Due.BEYOND);
        Due.is("other 4", x.move(1, 0, 4, 0, 0), Due.BEYOND);
        Due.is("ahead of NONE", x.move(3, 0, 4, 0, 0), Due.BEYOND);
        Due.is("ahead of NONE", x.move(4, 0, 3, 0, 0), Due.BEYOND);
        Due.says(33, "NONE: one is missing.");
        Due.is("the one", x.move(3, 0, 1, 0, 0), Due.NONE);
        Due.is("the other", x.move(1, 0, 3, 0, 0), Due.NONE);
        Due.is("both", x.move(3, 0, 3, 0, 0), Due.NONE);
        Due.is("ahead of BEYOND of n", x.move(3, 0, 1, 0, -1), Due.NONE);
        Due.is("ahead of BEYOND of i and j", x.move(1, -1, 3, -1, 0), Due.NONE);
        Due.says(33, "KIND: they are of unlike bits.");
        Due.is("8 and 16", x.move(0, 0, 1, 0, 1), Due.KIND);
        Due.is("16 and 8", x.move(1, 0, 0, 0, 0), Due.KIND);
        x.sheet(3, 32, 4);
        Due.is("32 and 16", x.move(3, 0, 1, 0, 1), Due.KIND);
        Due.is("8 and 32", x.move(0, 0, 3, 0, 1), Due.KIND);
        Due.is("ahead of BEYOND of n", x.move(0, 0, 1, 0, -1), Due.KIND);
        Due.is("ahead of BEYOND of i and j", x.move(0, -1, 1, 9, 1), Due.KIND);
        Due.says(33, "BEYOND: n, i, or j is below 0, or they don't stand there.");
        int min = Integer.MIN_VALUE;
        int max = Integer.MAX_VALUE;
        int[][] beyond = {{0, 0, -1}, {-1, 0, 1}, {0, -1, 1}, {-1, 0, 0}, {0, -1, 0}, {0, 0, 3}, {3, 0, 2}, {4, 0, 1}, {5, 0, 0},
            {0, 2, 1}, {0, 1, 2}, {0, 3, 0}, {0, 0, max}, {max, 0, 1}, {0, max, 1}, {max, max, max}, {min, 0, 1}, {0, min, 1},
            {0, 0, min}, {max, 0, 0}, {0, max, 0}, {1, 1, max}, {2, 1, max}};
        for (int[] b : beyond) {
            Due.is("i " + b[0] + " j " + b[1] + " n " + b[2], x.move(1, b[0], 2, b[1], b[2]), Due.BEYOND);
        }
        Due.is("also in one and the same", x.move(1, 0, 1, 1, 4), Due.BEYOND);
        Due.isText("nothing came", turns(x, 2), "00");
        Due.isText("nothing went", turns(x, 1), "1230");
    }

    private static void turnsOf() {
        Due.says(34, "Numbers of a SHEET become TURNS of GLASSES 0, 1, ..: how many, up to the first that is not 0 to 3 "
            + "(no ERROR then), or for which there is no GLASS.");
        GlassTax x = eight();
        x.sheet(0, 32, 24);
        Due.is("more numbers than GLASSES", x.turnsOf(0), 8);
        Due.is("the last GLASS", x.glassIs(7, 3), 0);
        putAll(x, 0, 3, 2, 1, 0, 3, 2, 1, 3);
        Due.isText("all eight", turns(x, 0), "32103213");
        int[] none = {-1, 4, 5, Integer.MIN_VALUE, Integer.MAX_VALUE};
        for (int v : none) {
            x.put(0, 0, v);
            Due.is("the first is " + v, x.turnsOf(0), 0);
            Due.is("TURN stays", x.glassIs(0, 3), 3);
            Due.is("TURN behind it stays", x.glassIs(1, 3), 2);
        }
        putAll(x, 0, 0, 0, 0, 0, 0, 0, 0, 4);
        Due.is("the eighth is 4", x.turnsOf(0), 7);
        Due.is("the ones ahead of it turn", x.glassIs(6, 3), 0);
        Due.is("the eighth stays", x.glassIs(7, 3), 3);
        Due.is("no ERROR", x.told(1) + x.told(2) + x.told(3) + x.told(5), 0);
        GlassTax y = new GlassTax();
        y.sheet(0, 8, 2);
        Due.is("no GLASS", y.turnsOf(0), 0);
        y.glass(0, 0, 3);
        Due.is("one GLASS", y.turnsOf(0), 1);
        y.glass(0, 1, 3);
        y.glass(0, 2, 3);
        Due.is("fewer numbers than GLASSES", y.turnsOf(0), 2);
        Due.is("the one behind stays", y.glassIs(2, 3), 3);
        y.sheet(0, 8, 0);
        Due.is("no number", y.turnsOf(0), 0);
    }

    private static void turnsOfErrors() {
        GlassTax x = eight();
        Due.says(34, "BEYOND: no such SHEET.");
        Due.is("sheet -1", x.turnsOf(-1), Due.BEYOND);
        Due.is("sheet 4", x.turnsOf(4), Due.BEYOND);
        Due.is("sheet MAX", x.turnsOf(Integer.MAX_VALUE), Due.BEYOND);
        Due.says(34, "NONE: it is missing.");
        for (int s = 0; s < 4; s++) {
            Due.is("missing", x.turnsOf(s), Due.NONE);
        }
        Due.is("TURN stays", x.glassIs(0, 3), 3);
    }

    private static void judge() {
        Due.says(35, "Numbers of a SHEET are DUE of PEOPLE 0, 1, .. now: how many are right, from the first on.");
        GlassTax x = new GlassTax();
        x.glass(34, 2, 0);
        x.sheet(0, 8, 24);
        Due.is("nobody", x.judge(0), 0);
        for (int i = 0; i < 6; i++) {
            x.person(i < 3 ? i : 63, 1);
        }
        int[] due = {4, 4, 0, 0, 0, 0};
        putAll(x, 0, due);
        Due.is("more numbers than PEOPLE", x.judge(0), 6);
        for (int i = 5; i >= 0; i--) {
            x.put(0, i, due[i] + 1);
            Due.is("wrong from " + i + " on", x.judge(0), i);
        }
        x.put(0, 0, 4);
        Due.is("right at first, then wrong", x.judge(0), 1);
        putAll(x, 0, 4, 4, 1, 0, 0, 0);
        Due.is("the third alone is wrong", x.judge(0), 2);
        putAll(x, 0, 3, 4, 0, 0, 0, 0);
        Due.is("the first alone is wrong", x.judge(0), 0);
        putAll(x, 0, 5, 5, 1, 1, 1, 1);
        x.sheet(1, 16, 2);
        putAll(x, 1, 4, 4);
        Due.is("fewer numbers than PEOPLE", x.judge(1), 2);
        x.sheet(1, 16, 0);
        Due.is("no number", x.judge(1), 0);
        x.hours(1);
        x.sheet(2, 32, 2);
        putAll(x, 2, 4, 4);
        Due.is("DUE now, not OWES", x.judge(2), 2);
        Due.text(x, 1, "999");
        Due.is("DUE now, by a TEXT", x.judge(2), 0);
        x.sheet(1, 16, 2);
        putAll(x, 1, 999, 65536 + 999);
        Due.is("the greatest DUE in 16 bits", x.judge(1), 2);
        putAll(x, 2, 999, 65536 + 999);
        Due.is("the greatest DUE in 32 bits", x.judge(2), 1);
        Due.text(x, 1, "127");
        x.put(0, 0, 127);
        x.put(0, 1, 127 + 256);
        Due.is("127 in 8 bits", x.judge(0), 2);
        Due.is("OWES stays", x.personIs(0, 2), 4);
    }

    private static void judgeErrors() {
        GlassTax x = new GlassTax();
        x.person(0, 0);
        Due.says(35, "BEYOND: no such SHEET.");
        Due.is("sheet -1", x.judge(-1), Due.BEYOND);
        Due.is("sheet 4", x.judge(4), Due.BEYOND);
        Due.is("sheet MIN", x.judge(Integer.MIN_VALUE), Due.BEYOND);
        Due.says(35, "NONE: it is missing.");
        for (int s = 0; s < 4; s++) {
            Due.is("missing", x.judge(s), Due.NONE);
        }
        x.sheet(3, 8, 1);
        Due.is("not missing", x.judge(3), 1);
        x.sheet(3, 0, 1);
        Due.is("missing again", x.judge(3), Due.NONE);
    }
}
