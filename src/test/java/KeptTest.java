/** Promises 36 to 41: images, numbers that wait, counts, what is told. */
public final class KeptTest {
    public static void main(String[] args) {
        image();
        imageOfTexts();
        imageOfWaiting();
        tell();
        count();
        told();
        Due.end();
    }

    private static void image() {
        GlassTax x = new GlassTax();
        Due.is("restore", x.restore(), Due.NONE);
        Due.is("image", x.image(), 1);
        x.glass(34, 2, 1);
        x.person(0, 1);
        x.hour(9);
        x.hours(2);
        x.seed(77);
        x.tell(8);
        x.feed('t', 1);
        Due.is("image", x.image(), 2);
        x.hang(0, 5);
        x.become(0, 0);
        x.spin(0, 0);
        x.glass(0, 2, 0);
        x.stand(0, 9, 2);
        x.person(1, 1);
        x.hours(3);
        x.pay(0, 1);
        x.seed(1);
        x.check();
        x.feed('+', 1);
        x.sheet(0, 8, 3);
        x.voice(0, 1, 1);
        Due.is("restore", x.restore(), 11);
        int[] glass = {3, 4, 2, 1, 2};
        for (int i = 0; i < 5; i++) {
            Due.is("glassIs " + i, x.glassIs(0, i), glass[i]);
        }
        int[] person = {0, 1, 8, 4};
        for (int i = 0; i < 4; i++) {
            Due.is("personIs " + i, x.personIs(0, i), person[i]);
        }
        int[] counts = {1, 1, 11, 1, 1, 2, 77};
        for (int i = 0; i < 7; i++) {
            Due.is("count " + i, x.count(i), counts[i]);
        }
        Due.is("the cell is free again", x.look(4, 1, 2), 0);
        Due.is("and the other is not", x.hang(0, 2), 2);
        Due.is("check", x.check(), 0);
        Due.is("sheets stay", x.put(0, 2, 1), 1);
        Due.is("told stays", x.told(2), 1);
        Due.is("how often stays", x.image(), 3);
        x.hour(500);
        Due.is("the IMAGE stays", x.restore(), 11);
        x.hour(500);
        Due.is("the IMAGE stays", x.restore(), 11);
        Due.is("the text", x.text(1), 1);
    }

    private static void imageOfTexts() {
        GlassTax x = new GlassTax();
        Due.text(x, 0, "n");
        x.image();
        Due.text(x, 0, "k+k");
        Due.text(x, 1, "t+5");
        Due.is("restore", x.restore(), 0);
        Due.is("FEE", x.law(0, 6, 7, 8), 6);
        Due.is("DUE", x.law(1, 6, 7, 8), 6);
        Due.is("untell", x.untell(1), 0);
        Due.is("untell", x.untell(0), 1);
        x.restore();
        Due.is("untell", x.untell(0), 1);
    }

    private static void imageOfWaiting() {
        GlassTax x = new GlassTax();
        x.person(0, 0);
        x.tell(0);
        x.tell(5);
        Due.feed(x, "7*k");
        x.image();
        Due.is("check", x.check(), 2);
        x.tell(3);
        Due.is("check", x.check(), 1);
        x.text(0);
        Due.is("text", Due.text(x, 0, "+++"), -10);
        x.restore();
        Due.is("count", x.count(4), 2);
        Due.is("the same numbers", x.check(), 2);
        Due.is("the same bytes", x.text(0), 1);
        Due.is("the same bytes", x.law(0, 0, 9, 0), 63);
    }

    private static void tell() {
        GlassTax x = new GlassTax();
        for (int i = 0; i < 24; i++) {
            Due.is("tell", x.tell(i), i + 1);
        }
        Due.is("full", x.tell(0), Due.FULL);
        Due.is("24 wait", x.count(4), 24);
        Due.is("nobody", x.check(), 1);
        Due.is("none wait", x.count(4), 0);
        x.glass(35, 1, 0);
        x.person(0, 1);
        x.person(2, 3);
        x.person(3, 1);
        x.hours(1);
        int[][] told = {{5}, {5, 5}, {5, 5, 0}, {5, 5, 0, 0}, {4}, {5, 5, 1}, {5, 4, 1}, {}};
        int[] due = {0, 0, 0, 4, 1, 3, 2, 0};
        for (int i = 0; i < told.length; i++) {
            for (int v : told[i]) {
                x.tell(v);
            }
            Due.is("check " + i, x.check(), due[i]);
            Due.is("none wait", x.count(4), 0);
        }
        Due.is("full is told", x.told(4), 1);
    }

    private static void count() {
        GlassTax x = new GlassTax();
        Due.is("count 7", x.count(7), Due.BEYOND);
        Due.is("count -1", x.count(-1), Due.BEYOND);
        x.seed(-5);
        Due.is("count 6", x.count(6), -5);
    }

    private static void told() {
        GlassTax x = new GlassTax();
        for (int k = 1; k <= 6; k++) {
            Due.is("told", x.told(k), 0);
        }
        Due.is("told 0", x.told(0), Due.BEYOND);
        Due.is("told 7", x.told(7), Due.BEYOND);
        Due.is("told -1", x.told(-1), Due.BEYOND);
        Due.is("counted, too", x.told(1), 3);
        x.glass(0, 0, 0);
        x.person(0, 0);
        x.body(0);
        x.restore();
        x.glass(0, 0, 0);
        x.voice(0, 3, 1);
        x.as(0, 1);
        for (int i = 0; i < 60; i++) {
            x.feed('1', 1);
        }
        x.feed('1', 1);
        int[] due = {3, 2, 1, 1, 1, 1};
        for (int k = 1; k <= 6; k++) {
            Due.is("told " + k, x.told(k), due[k - 1]);
        }
    }
}
