/** Promises 18 to 20: hours, hours by draws, the draws. */
public final class HoursTest {
    public static void main(String[] args) {
        errors();
        oneAfterAnother();
        heldOwes();
        everIsNotSeen();
        seenAgain();
        heldSeen();
        loose();
        seed();
        Due.end();
    }

    private static void errors() {
        GlassTax x = new GlassTax();
        Due.is("hours 0", x.hours(0), Due.BEYOND);
        Due.is("hours 49", x.hours(49), Due.BEYOND);
        Due.is("loose 0", x.loose(0), Due.BEYOND);
        Due.is("loose 25", x.loose(25), Due.BEYOND);
        Due.is("hours 48", x.hours(48), 48);
        Due.is("loose 24", x.loose(24), 72);
        x.hour(9990);
        Due.is("hours above", x.hours(10), Due.STATE);
        Due.is("loose above", x.loose(10), Due.STATE);
        Due.is("beyond ahead of state", x.hours(49), Due.BEYOND);
        Due.is("hours", x.hours(8), 9998);
        Due.is("loose", x.loose(1), 9999);
        Due.is("loose above", x.loose(1), Due.STATE);
        x.hour(9951);
        Due.is("hours to the last", x.hours(48), 9999);
        Due.is("without PEOPLE no draws", x.count(6), 1);
    }

    /** The first one's look wears the silvered glass within the hour, ahead of the second one's. */
    private static void oneAfterAnother() {
        GlassTax x = new GlassTax();
        x.glass(60, 2, 1);
        x.glass(36, 10, 0);
        x.person(0, 1);
        x.person(0, 1);
        Due.is("DUE ahead", x.personIs(1, 3), 6);
        Due.is("hours", x.hours(1), 1);
        Due.is("the first OWES", x.personIs(0, 2), 6);
        Due.is("the second OWES", x.personIs(1, 2), 0);
        Due.is("SEEN on the way and back, then once", x.glassIs(0, 4), 3);
        Due.is("SEEN", x.glassIs(1, 4), 1);
    }

    private static void heldOwes() {
        GlassTax x = new GlassTax();
        x.glass(30, 3, 0);
        x.glass(30, 5, 0);
        x.person(4, 1);
        x.hours(48);
        x.hours(48);
        Due.is("OWES", x.personIs(0, 2), 96 * 999);
        x.hours(4);
        Due.is("OWES", x.personIs(0, 2), 99900);
        Due.is("THEN held", x.then(0, 1), 99999);
        x.hours(1);
        Due.is("OWES held", x.personIs(0, 2), 99999);
        x.hours(1);
        Due.is("OWES held", x.personIs(0, 2), 99999);
        Due.is("pay all", x.pay(0, 99999), 99999);
    }

    private static void everIsNotSeen() {
        GlassTax x = new GlassTax();
        x.glass(35, 3, 2);
        x.glass(33, 5, 2);
        x.person(4, 1);
        x.hours(3);
        Due.is("SEEN", x.glassIs(0, 4), 0);
        Due.is("SEEN", x.glassIs(1, 4), 0);
        x.stand(0, 6, 3);
        x.hours(3);
        Due.is("SEEN", x.glassIs(1, 4), 3);
        Due.is("SEEN", x.glassIs(0, 4), 0);
    }

    private static void seenAgain() {
        GlassTax x = new GlassTax();
        x.glass(34, 2, 0);
        x.glass(2, 18, 0);
        x.person(16, 1);
        Due.is("met twice, with the lake between", x.look(16, 1, 2), 3);
        Due.is("TAX twice", x.look(16, 1, 3), 8);
        Due.is("CELLS that come again", x.look(16, 1, 1), 9);
        x.hours(2);
        Due.is("SEEN twice an hour", x.glassIs(1, 4), 4);
        Due.is("SEEN", x.glassIs(0, 4), 2);
    }

    private static void heldSeen() {
        GlassTax x = new GlassTax();
        x.glass(34, 2, 0);
        x.glass(2, 18, 0);
        for (int i = 0; i < 6; i++) {
            x.person(16, 1);
        }
        for (int i = 1; i <= 200; i++) {
            x.hour(0);
            x.hours(48);
            if (i == 173 || i == 174 || i == 200) {
                Due.is("SEEN after " + i, x.glassIs(1, 4), Math.min(99999, i * 576));
            }
        }
    }

    private static void loose() {
        GlassTax x = new GlassTax();
        x.person(0, 0);
        x.person(0, 0);
        x.person(0, 0);
        int z = 5;
        x.seed(z);
        int[] places = new int[3];
        for (int i = 0; i < 24; i++) {
            z = z * 1103515245 + 12345;
            int who = (z >>> 8) % 3;
            z = z * 1103515245 + 12345;
            places[who] = (z >>> 8) % 256;
            Due.is("loose", x.loose(1), i + 1);
            for (int p = 0; p < 3; p++) {
                Due.is("CELL of " + p, x.personIs(p, 0), places[p] / 4);
                Due.is("WAY of " + p, x.personIs(p, 1), places[p] % 4);
            }
        }
        Due.is("z", x.count(6), z);
        GlassTax y = new GlassTax();
        y.glass(39, 0, 0);
        y.person(0, 0);
        y.loose(1);
        int[] where = {y.personIs(0, 0), y.personIs(0, 1)};
        Due.is("one STANDS there ahead of the HOUR", y.personIs(0, 2), y.look(where[0], where[1], 3));
    }

    private static void seed() {
        GlassTax x = new GlassTax();
        Due.is("seed", x.seed(Integer.MIN_VALUE), 1);
        Due.is("seed", x.seed(-1000000001), Integer.MIN_VALUE);
        Due.is("seed", x.seed(7), -1000000001);
        Due.is("count", x.count(6), 7);
        Due.is("no ERROR", x.told(1), 0);
    }
}
