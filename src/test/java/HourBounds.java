/** The boundary cases of promises 18 to 20, and of what the Terms say of AN HOUR and DRAWS. */
final class HourBounds {
    private HourBounds() {
    }

    static void run() {
        eachByNumbers();
        owesHeld();
        seenHeld();
        seenUnlessEver();
        hourIsMore();
        hours();
        draws();
        byDraws();
        loose();
        seed();
    }

    private static void eachByNumbers() {
        Due.says(0, "AN HOUR goes by: each, by numbers: OWES is DUE more (held at 99999); then (unless the LOOK is EVER) "
            + "SEEN of each GLASS is more by how often that LOOK has met it (held at 99999). HOUR is 1 more.");
        GlassTax x = new GlassTax();
        x.glass(60, 2, 1);
        x.glass(36, 10, 0);
        for (int i = 0; i < 3; i++) {
            x.person(0, 1);
        }
        Due.text(x, 0, "5");
        for (int i = 0; i < 3; i++) {
            Due.is("DUE ahead, of " + i, x.personIs(i, 3), 15);
        }
        Due.is("hours", x.hours(1), 1);
        Due.is("0 OWES: silvered, lake, silvered", x.personIs(0, 2), 15);
        Due.is("1 OWES: it ENDS in the silvered one now", x.personIs(1, 2), 5);
        Due.is("2 OWES", x.personIs(2, 2), 5);
        Due.is("SEEN twice by 0, once by 1 and 2", x.glassIs(0, 4), 4);
        Due.is("SEEN once by 0", x.glassIs(1, 4), 1);
        Due.is("DUE now", x.personIs(0, 3), 5);
        GlassTax y = new GlassTax();
        y.glass(62, 2, 2);
        y.glass(37, 0, 0);
        y.person(1, 1);
        Due.is("EVER till it is SEEN", y.look(1, 1, 3), 999);
        y.person(3, 3);
        y.hours(3);
        Due.is("SEEN by the other one, as GLASS", y.glassIs(0, 4), 3);
        Due.is("EVER no more", y.look(1, 1, 0), 2);
        Due.is("three HOURS of 999", y.personIs(0, 2), 2997);
        y.hours(1);
        Due.is("and one of 2", y.personIs(0, 2), 2999);
    }

    private static void owesHeld() {
        GlassTax x = new GlassTax();
        x.person(0, 0);
        Due.text(x, 1, "999");
        x.hours(48);
        x.hours(48);
        x.hours(4);
        Due.is("OWES", x.personIs(0, 2), 99900);
        x.image();
        Due.is("THEN held", x.then(0, 1), 99999);
        Due.is("THEN held", x.then(0, 48), 99999);
        x.hours(1);
        Due.is("99900 and 999", x.personIs(0, 2), 99999);
        x.restore();
        Due.text(x, 1, "98");
        x.hours(1);
        Due.is("99900 and 98", x.personIs(0, 2), 99998);
        Due.text(x, 1, "1");
        x.hours(1);
        Due.is("99998 and 1", x.personIs(0, 2), 99999);
        x.hours(1);
        Due.is("99999 and 1", x.personIs(0, 2), 99999);
        Due.is("pay all but 1", x.pay(0, 99998), 99998);
        Due.is("OWES", x.personIs(0, 2), 1);
        x.restore();
        Due.text(x, 1, "100");
        x.hours(1);
        Due.is("99900 and 100", x.personIs(0, 2), 99999);
        Due.is("pay all", x.pay(0, 99999), 99999);
        Due.is("OWES", x.personIs(0, 2), 0);
    }

    /** Six look at a glass twice an hour, till it is SEEN nearly as often as can be. */
    private static void seenHeld() {
        GlassTax x = new GlassTax();
        x.glass(34, 2, 0);
        x.glass(2, 18, 0);
        for (int i = 0; i < 6; i++) {
            x.person(16, 1);
        }
        for (int i = 0; i < 173; i++) {
            x.hours(48);
        }
        x.hours(29);
        Due.is("SEEN twice by each of six for 8333 HOURS", x.glassIs(1, 4), 99996);
        for (int i = 1; i < 6; i++) {
            x.stand(i, 63, 1);
        }
        x.hours(1);
        Due.is("SEEN twice by one", x.glassIs(1, 4), 99998);
        x.image();
        x.hours(1);
        Due.is("99998 and 2", x.glassIs(1, 4), 99999);
        x.hours(1);
        Due.is("99999 and 2", x.glassIs(1, 4), 99999);
        x.restore();
        x.stand(0, 19, 3);
        x.hours(1);
        Due.is("99998 and 1", x.glassIs(1, 4), 99999);
        x.hours(1);
        Due.is("99999 and 1", x.glassIs(1, 4), 99999);
        Due.is("the other one is not held", x.glassIs(0, 4), 6 * 8333 + 1);
    }

    private static void seenUnlessEver() {
        GlassTax x = new GlassTax();
        x.glass(35, 3, 2);
        x.glass(33, 5, 2);
        x.person(4, 1);
        x.person(2, 1);
        x.hours(2);
        Due.is("EVER: SEEN by the other one alone", x.glassIs(0, 4), 2);
        Due.is("EVER: not SEEN", x.glassIs(1, 4), 0);
        Due.is("EVER: OWES", x.personIs(0, 2), 1998);
    }

    private static void hourIsMore() {
        GlassTax x = new GlassTax();
        x.person(0, 0);
        Due.text(x, 1, "h+1");
        x.hour(23);
        x.hours(1);
        Due.is("DUE by the HOUR that goes by", x.personIs(0, 2), 24);
        x.hours(1);
        Due.is("its rest by 24 goes round", x.personIs(0, 2), 25);
        x.hours(1);
        Due.is("and goes on", x.personIs(0, 2), 27);
        Due.is("HOUR", x.count(2), 26);
        x.hour(9998);
        x.hours(1);
        Due.is("9998 leaves 14", x.personIs(0, 2), 42);
        Due.is("THEN by 9999, which leaves 15, and by 10000", x.then(0, 2), 42 + 16 + 17);
    }

    private static void hours() {
        Due.says(18, "n (1 .. 48) HOURS go by: HOUR.");
        GlassTax x = new GlassTax();
        x.glass(37, 2, 0);
        x.person(0, 1);
        Due.is("hours 1", x.hours(1), 1);
        Due.is("OWES", x.personIs(0, 2), 7);
        Due.is("hours 48", x.hours(48), 49);
        Due.is("OWES", x.personIs(0, 2), 343);
        Due.says(18, "BEYOND.");
        int[] beyond = {-1, 0, 49, Integer.MIN_VALUE, Integer.MAX_VALUE};
        for (int n : beyond) {
            Due.is("hours " + n, x.hours(n), Due.BEYOND);
        }
        Due.says(18, "STATE: it would be above 9999.");
        x.hour(9951);
        Due.is("to 9999", x.hours(48), 9999);
        x.hour(9952);
        Due.is("to 10000", x.hours(48), Due.STATE);
        Due.is("HOUR stays", x.count(2), 9952);
        Due.is("to 9999", x.hours(47), 9999);
        Due.is("1 more", x.hours(1), Due.STATE);
        Due.is("BEYOND is asked ahead of STATE", x.hours(49), Due.BEYOND);
        Due.is("BEYOND is asked ahead of STATE", x.hours(0), Due.BEYOND);
        x.hour(9998);
        Due.is("the last one", x.hours(1), 9999);
        Due.is("OWES for those that went by", x.personIs(0, 2), 343 + 7 * (48 + 47 + 1));
        Due.is("no PEOPLE, the HOURS go by", new GlassTax().hours(48), 48);
    }

    /** The next z, as a number without a sign. */
    private static long next(long z) {
        return z * 1103515245L + 12345L & 0xFFFFFFFFL;
    }

    private static void draws() {
        Due.says(0, "DRAWS: z is told (1 at first); each makes it z * 1103515245 + 12345 (an int), and gives z >>> 8.");
        int[] seeds = {1, 0, -1, 2, 77, 12345, Integer.MIN_VALUE, Integer.MAX_VALUE, -12345, 1 << 30, 0x55555555};
        for (int seed : seeds) {
            GlassTax x = new GlassTax();
            for (int i = 0; i < 5; i++) {
                x.person(0, 0);
            }
            Due.is("z at first", x.seed(seed), 1);
            int[] places = new int[5];
            long z = seed & 0xFFFFFFFFL;
            for (int i = 1; i <= 6; i++) {
                z = next(z);
                int who = (int) ((z >> 8) % 5);
                z = next(z);
                places[who] = (int) ((z >> 8) % 256);
                Due.is("loose from " + seed, x.loose(1), i);
                Due.is("z from " + seed, x.count(6), (int) z);
                for (int p = 0; p < 5; p++) {
                    Due.is("CELL from " + seed, x.personIs(p, 0), places[p] / 4);
                    Due.is("WAY from " + seed, x.personIs(p, 1), places[p] % 4);
                }
            }
        }
    }

    private static void byDraws() {
        Due.says(0, "BY DRAWS an HOUR: if there are PEOPLE, two draws: the one that is the first one's rest by how many "
            + "there are STANDS where the second one's rest by 256 says (by 4, cut, the CELL; its rest by 4 the WAY); "
            + "then AN HOUR.");
        GlassTax x = new GlassTax();
        Due.is("without PEOPLE the HOUR goes by", x.loose(1), 1);
        Due.is("without PEOPLE no draw", x.count(6), 1);
        x.person(0, 0);
        Due.text(x, 1, "t*100+h");
        Due.is("with PEOPLE", x.loose(1), 2);
        Due.is("two draws", x.count(6), (int) next(next(1)));
        int place = (int) ((next(next(1)) >> 8) % 256);
        Due.is("CELL", x.personIs(0, 0), place / 4);
        Due.is("WAY", x.personIs(0, 1), place % 4);
        Due.is("AN HOUR went by, the first of the day", x.personIs(0, 2), 1);
        for (int many = 1; many <= 6; many++) {
            manyByDraws(many);
        }
        thenAnHour();
    }

    private static void manyByDraws(int many) {
        GlassTax x = new GlassTax();
        for (int i = 0; i < many; i++) {
            x.person(i, 1);
        }
        Due.is("24 HOURS", x.loose(24), 24);
        long z = 1;
        int[] places = new int[many];
        for (int i = 0; i < many; i++) {
            places[i] = 4 * i + 1;
        }
        for (int i = 0; i < 24; i++) {
            z = next(z);
            int who = (int) ((z >> 8) % many);
            z = next(z);
            places[who] = (int) ((z >> 8) % 256);
        }
        for (int i = 0; i < many; i++) {
            Due.is("CELL of " + i + " of " + many, x.personIs(i, 0), places[i] / 4);
            Due.is("WAY of " + i + " of " + many, x.personIs(i, 1), places[i] % 4);
        }
        Due.is("z", x.count(6), (int) z);
    }

    /** Lakes stand all round, so that what is DUE ahead of the draws is another number than what is DUE behind them. */
    private static void thenAnHour() {
        GlassTax x = new GlassTax();
        int place = (int) ((next(next(5)) >> 8) % 256);
        x.seed(5);
        x.glass(37, 0, 0);
        x.glass(38, 7, 0);
        x.glass(39, 63, 0);
        x.person(2, 1);
        int owes = x.look(place / 4, place % 4, 3);
        Due.is("another number", owes == x.personIs(0, 3) ? 1 : 0, 0);
        x.loose(1);
        Due.is("STANDS there ahead of the HOUR", x.personIs(0, 2), owes);
    }

    private static void loose() {
        Due.says(19, "n (1 .. 24) HOURS BY DRAWS: HOUR.");
        GlassTax x = new GlassTax();
        x.person(0, 0);
        Due.is("loose 1", x.loose(1), 1);
        Due.is("loose 24", x.loose(24), 25);
        Due.says(19, "BEYOND.");
        int z = x.count(6);
        int[] beyond = {-1, 0, 25, 48, Integer.MIN_VALUE, Integer.MAX_VALUE};
        for (int n : beyond) {
            Due.is("loose " + n, x.loose(n), Due.BEYOND);
        }
        Due.says(19, "STATE: it would be above 9999.");
        x.hour(9976);
        Due.is("to 10000", x.loose(24), Due.STATE);
        Due.is("HOUR stays", x.count(2), 9976);
        Due.is("no draw", x.count(6), z);
        Due.is("to 9999", x.loose(23), 9999);
        Due.is("1 more", x.loose(1), Due.STATE);
        Due.is("BEYOND is asked ahead of STATE", x.loose(25), Due.BEYOND);
        Due.is("BEYOND is asked ahead of STATE", x.loose(0), Due.BEYOND);
        x.hour(9975);
        Due.is("to 9999", x.loose(24), 9999);
        x.hour(9998);
        Due.is("the last one", x.loose(1), 9999);
    }

    private static void seed() {
        Due.says(20, "z becomes v: what it was (any number).");
        GlassTax x = new GlassTax();
        int[] seeds = {0, -1, Integer.MIN_VALUE, Integer.MAX_VALUE, Due.BEYOND, 1, 1};
        int was = 1;
        for (int seed : seeds) {
            Due.is("seed " + seed, x.seed(seed), was);
            Due.is("z", x.count(6), seed);
            was = seed;
        }
        for (int k = 1; k <= 6; k++) {
            Due.is("no ERROR " + k, x.told(k), 0);
        }
    }
}
