/** Promises 31 to 35: sheets, and what is done by them. */
public final class SheetsTest {
    public static void main(String[] args) {
        sheet();
        put();
        move();
        moveErrors();
        turnsOf();
        judge();
        Due.end();
    }

    /** The numbers of a SHEET, by turnsOf: how many of them are TURNS, and which. */
    private static String turns(GlassTax x, int sheet) {
        StringBuilder text = new StringBuilder();
        int many = x.turnsOf(sheet);
        for (int i = 0; i < many; i++) {
            text.append(x.glassIs(i, 3));
        }
        return text.toString();
    }

    private static void same(String call, String got, String want) {
        Due.is(call + " (" + got + ", due is " + want + ")", got.equals(want) ? 1 : 0, 1);
    }

    private static GlassTax eight() {
        GlassTax x = new GlassTax();
        for (int i = 0; i < 8; i++) {
            x.glass(0, i, 3);
        }
        return x;
    }

    private static void sheet() {
        GlassTax x = eight();
        Due.is("sheet 4", x.sheet(4, 8, -1), Due.BEYOND);
        Due.is("sheet -1", x.sheet(-1, 8, 0), Due.BEYOND);
        Due.is("bits 64", x.sheet(0, 64, -1), Due.BEYOND);
        Due.is("bits -8", x.sheet(0, -8, 1), Due.BEYOND);
        Due.is("n -1", x.sheet(0, 8, -1), Due.STATE);
        Due.is("n MIN", x.sheet(0, 32, Integer.MIN_VALUE), Due.STATE);
        Due.is("n 25", x.sheet(0, 8, 25), Due.BEYOND);
        Due.is("missing still", x.turnsOf(0), Due.NONE);
        Due.is("24", x.sheet(0, 8, 24), 1);
        Due.is("all 0", x.put(0, 23, 1), 1);
        same("all 0", turns(x, 0), "00000000");
        Due.is("n does not matter", x.sheet(0, 0, -1), 1);
        Due.is("missing", x.put(0, 0, 1), Due.NONE);
        Due.is("n does not matter", x.sheet(0, 0, 99), 1);
        Due.is("again", x.sheet(0, 16, 2), 1);
        same("again", turns(x, 0), "00");
        x.put(0, 1, 3);
        x.sheet(0, 16, 2);
        same("all 0 again", turns(x, 0), "00");
        Due.is("0 numbers", x.sheet(0, 32, 0), 1);
        Due.is("0 numbers", x.turnsOf(0), 0);
        Due.is("0 numbers", x.put(0, 0, 0), Due.BEYOND);
    }

    private static void put() {
        GlassTax x = eight();
        Due.is("sheet 4", x.put(4, 0, 0), Due.BEYOND);
        Due.is("missing", x.put(0, -1, 0), Due.NONE);
        int[] bits = {8, 16, 32};
        for (int i = 0; i < 3; i++) {
            x.sheet(i, bits[i], 3);
            Due.is("put -1", x.put(i, -1, 0), Due.BEYOND);
            Due.is("put 3", x.put(i, 3, 0), Due.BEYOND);
            x.put(i, 0, 256 + 1);
            x.put(i, 1, 65536 + 2);
            x.put(i, 2, 3);
        }
        same("8 bits", turns(x, 0), "123");
        same("16 bits", turns(x, 1), "");
        x.put(1, 0, 1);
        same("16 bits", turns(x, 1), "123");
        x.put(2, 0, 1);
        same("32 bits", turns(x, 2), "1");
    }

    private static void move() {
        GlassTax x = eight();
        x.sheet(0, 8, 8);
        x.sheet(1, 8, 6);
        for (int i = 0; i < 8; i++) {
            x.put(0, i, i % 4);
        }
        Due.is("move", x.move(0, 1, 1, 2, 3), 3);
        same("move", turns(x, 1), "001230");
        Due.is("move within, up", x.move(0, 0, 0, 2, 6), 6);
        same("as they all were", turns(x, 0), "01012301");
        Due.is("move within, down", x.move(0, 2, 0, 0, 6), 6);
        same("as they all were", turns(x, 0), "01230101");
        Due.is("move all", x.move(1, 0, 0, 2, 6), 6);
        same("move all", turns(x, 0), "01001230");
        Due.is("none at the end", x.move(1, 6, 0, 8, 0), 0);
        same("the first stays", turns(x, 1), "001230");
    }

    private static void moveErrors() {
        GlassTax x = new GlassTax();
        x.sheet(0, 8, 4);
        x.sheet(1, 16, 4);
        x.sheet(2, 16, 2);
        Due.is("sheet 4", x.move(4, 0, 0, 0, -1), Due.BEYOND);
        Due.is("other 4", x.move(3, 0, 4, 0, -1), Due.BEYOND);
        Due.is("sheet -1", x.move(-1, 0, 0, 0, 0), Due.BEYOND);
        Due.is("missing", x.move(3, 0, 0, 0, -1), Due.NONE);
        Due.is("missing", x.move(0, 0, 3, 0, -1), Due.NONE);
        Due.is("unlike, and n below 0", x.move(0, 0, 1, 0, -1), Due.KIND);
        Due.is("n below 0", x.move(1, 0, 2, 0, -1), Due.BEYOND);
        Due.is("i below 0", x.move(1, -1, 2, 0, 1), Due.BEYOND);
        Due.is("j below 0", x.move(1, 0, 2, -1, 1), Due.BEYOND);
        Due.is("they don't stand there", x.move(1, 2, 1, 0, 3), Due.BEYOND);
        Due.is("no place for them", x.move(1, 0, 2, 0, 3), Due.BEYOND);
        Due.is("none, from 5", x.move(1, 5, 2, 0, 0), Due.BEYOND);
        Due.is("none, to 3", x.move(1, 0, 2, 3, 0), Due.BEYOND);
        Due.is("far", x.move(1, Integer.MAX_VALUE, 2, 0, 1), Due.BEYOND);
        Due.is("far", x.move(1, 0, 2, Integer.MAX_VALUE, Integer.MAX_VALUE), Due.BEYOND);
        Due.is("far", x.move(1, 1, 2, 1, Integer.MAX_VALUE), Due.BEYOND);
        Due.is("move", x.move(1, 2, 2, 0, 2), 2);
    }

    private static void turnsOf() {
        GlassTax x = new GlassTax();
        Due.is("sheet 4", x.turnsOf(4), Due.BEYOND);
        Due.is("sheet -1", x.turnsOf(-1), Due.BEYOND);
        Due.is("missing", x.turnsOf(3), Due.NONE);
        x.sheet(0, 32, 5);
        Due.is("no glass", x.turnsOf(0), 0);
        for (int i = 0; i < 4; i++) {
            x.glass(0, i, 3);
        }
        x.put(0, 0, 1);
        x.put(0, 1, 2);
        Due.is("more numbers than glasses", x.turnsOf(0), 4);
        same("turns", turns(x, 0), "1200");
        x.put(0, 0, 3);
        x.put(0, 1, 4);
        Due.is("up to the first that is none", x.turnsOf(0), 1);
        Due.is("TURN", x.glassIs(0, 3), 3);
        Due.is("TURN stays", x.glassIs(1, 3), 2);
        x.put(0, 0, -1);
        Due.is("-1", x.turnsOf(0), 0);
        Due.is("no ERROR", x.told(1), 2);
    }

    private static void judge() {
        GlassTax x = new GlassTax();
        Due.is("sheet 4", x.judge(4), Due.BEYOND);
        Due.is("missing", x.judge(0), Due.NONE);
        x.sheet(0, 16, 3);
        Due.is("nobody", x.judge(0), 0);
        x.glass(34, 2, 0);
        x.glass(35, 4, 0);
        x.person(1, 1);
        x.person(3, 1);
        x.person(5, 3);
        x.person(63, 0);
        x.put(0, 0, 4);
        x.put(0, 1, 999);
        x.put(0, 2, 5);
        Due.is("all right", x.judge(0), 3);
        x.put(0, 1, 998);
        Due.is("from the first on", x.judge(0), 1);
        x.put(0, 0, 5);
        Due.is("none", x.judge(0), 0);
        x.sheet(1, 32, 24);
        x.move(0, 0, 0, 0, 0);
        x.put(1, 0, 4);
        x.put(1, 1, 999);
        x.put(1, 2, 5);
        Due.is("more numbers than people", x.judge(1), 4);
        Due.is("only asked", x.personIs(0, 2), 0);
        x.hours(1);
        Due.is("what is due now, not owed", x.judge(1), 4);
    }
}
