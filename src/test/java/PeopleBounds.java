/** The boundary cases of promises 9 to 13, and of what the Terms say of PEOPLE. */
final class PeopleBounds {
    private PeopleBounds() {
    }

    static void run() {
        person();
        personIs();
        stand();
        pay();
        hour();
    }

    private static void person() {
        Due.says(0, "PEOPLE 0, 1, .. (at most 6), each STANDS in a CELL with a WAY, OWES (0 .. 99999; 0 at first).");
        Due.says(9, "One of the PEOPLE more: the number.");
        GlassTax x = new GlassTax();
        int[][] places = {{0, 0}, {63, 3}, {63, 3}, {7, 1}, {56, 2}, {0, 0}};
        x.glass(0, 63, 0);
        for (int i = 0; i < 6; i++) {
            Due.is("PEOPLE", x.count(1), i);
            Due.is("person " + i, x.person(places[i][0], places[i][1]), i);
            Due.is("CELL", x.personIs(i, 0), places[i][0]);
            Due.is("WAY", x.personIs(i, 1), places[i][1]);
            Due.is("OWES", x.personIs(i, 2), 0);
            if (i == 3) {
                refuses(x);
                Due.says(9, "One of the PEOPLE more: the number.");
            }
        }
        Due.says(9, "FULL.");
        Due.is("a seventh", x.person(0, 0), Due.FULL);
        Due.is("BEYOND is asked ahead of FULL", x.person(64, 0), Due.BEYOND);
        Due.is("PEOPLE", x.count(1), 6);
        Due.is("no number 6", x.personIs(6, 0), Due.BEYOND);
    }

    private static void refuses(GlassTax x) {
        Due.says(9, "BEYOND.");
        Due.is("cell -1", x.person(-1, 0), Due.BEYOND);
        Due.is("cell 64", x.person(64, 0), Due.BEYOND);
        Due.is("way -1", x.person(0, -1), Due.BEYOND);
        Due.is("way 4", x.person(0, 4), Due.BEYOND);
        Due.is("far", x.person(Integer.MIN_VALUE, Integer.MAX_VALUE), Due.BEYOND);
        Due.is("none came", x.count(1), 4);
    }

    private static void personIs() {
        Due.says(10, "Of one of the PEOPLE: 0 CELL, 1 WAY, 2 OWES, 3 DUE now.");
        GlassTax x = new GlassTax();
        x.glass(36, 2, 0);
        x.person(63, 2);
        x.person(0, 1);
        x.hours(3);
        x.become(0, 39);
        int[][] is = {{63, 2, 0, 0}, {0, 1, 18, 9}};
        for (int person = 0; person < 2; person++) {
            for (int what = 0; what < 4; what++) {
                Due.is("personIs " + person + " " + what, x.personIs(person, what), is[person][what]);
            }
        }
        Due.says(10, "BEYOND.");
        Due.is("what -1", x.personIs(0, -1), Due.BEYOND);
        Due.is("what 4", x.personIs(0, 4), Due.BEYOND);
        Due.is("person -1", x.personIs(-1, 0), Due.BEYOND);
        Due.is("person 2", x.personIs(2, 0), Due.BEYOND);
        Due.is("person 2, what 3", x.personIs(2, 3), Due.BEYOND);
    }

    private static void stand() {
        Due.says(11, "One STANDS in a CELL with a WAY: 4 times the CELL, and the WAY, till then.");
        GlassTax x = new GlassTax();
        x.person(0, 0);
        x.person(9, 1);
        Due.is("from the least to the greatest", x.stand(0, 63, 3), 0);
        Due.is("from the greatest to the least", x.stand(0, 0, 0), 255);
        Due.is("where another one STANDS", x.stand(0, 9, 1), 0);
        Due.is("the same again", x.stand(0, 9, 1), 37);
        Due.is("the other one", x.stand(1, 9, 2), 37);
        Due.says(11, "BEYOND.");
        Due.is("cell -1", x.stand(0, -1, 0), Due.BEYOND);
        Due.is("cell 64", x.stand(0, 64, 0), Due.BEYOND);
        Due.is("way -1", x.stand(0, 0, -1), Due.BEYOND);
        Due.is("way 4", x.stand(0, 0, 4), Due.BEYOND);
        Due.is("person -1", x.stand(-1, 0, 0), Due.BEYOND);
        Due.is("person 2", x.stand(2, 0, 0), Due.BEYOND);
        Due.is("CELL stays", x.personIs(0, 0), 9);
        Due.is("WAY stays", x.personIs(0, 1), 1);
    }

    private static void pay() {
        Due.says(12, "One pays n (0 .. 99999), but no more than one OWES: how much.");
        GlassTax x = new GlassTax();
        x.person(0, 0);
        x.person(0, 0);
        Due.is("who OWES nothing, pays 0", x.pay(0, 0), 0);
        Due.is("who OWES nothing, pays 1", x.pay(0, 1), 0);
        Due.is("who OWES nothing, pays all", x.pay(0, 99999), 0);
        Due.text(x, 1, "10");
        x.hours(1);
        Due.is("pay 0", x.pay(0, 0), 0);
        Due.is("pay 1 of 10", x.pay(0, 1), 1);
        Due.is("pay 8 of 9", x.pay(0, 8), 8);
        Due.is("OWES", x.personIs(0, 2), 1);
        Due.is("pay 2 of 1", x.pay(0, 2), 1);
        Due.is("OWES", x.personIs(0, 2), 0);
        Due.is("the other one OWES", x.personIs(1, 2), 10);
        Due.is("pay just that", x.pay(1, 10), 10);
        x.hours(1);
        Due.is("pay 99999 of 10", x.pay(1, 99999), 10);
        Due.is("OWES", x.personIs(1, 2), 0);
        Due.says(12, "BEYOND.");
        Due.is("pay -1", x.pay(0, -1), Due.BEYOND);
        Due.is("pay 100000", x.pay(0, 100000), Due.BEYOND);
        Due.is("pay MIN", x.pay(0, Integer.MIN_VALUE), Due.BEYOND);
        Due.is("person -1", x.pay(-1, 0), Due.BEYOND);
        Due.is("person 2", x.pay(2, 0), Due.BEYOND);
        Due.is("OWES stays", x.personIs(0, 2), 10);
    }

    private static void hour() {
        Due.says(13, "HOUR becomes v: what it was.");
        GlassTax x = new GlassTax();
        Due.is("hour 9999", x.hour(9999), 0);
        Due.is("hour 9999 again", x.hour(9999), 9999);
        Due.is("hour 0", x.hour(0), 9999);
        Due.is("hour 1", x.hour(1), 0);
        x.hours(48);
        Due.is("hour after 48", x.hour(7), 49);
        Due.says(13, "BEYOND.");
        Due.is("hour -1", x.hour(-1), Due.BEYOND);
        Due.is("hour 10000", x.hour(10000), Due.BEYOND);
        Due.is("hour MIN", x.hour(Integer.MIN_VALUE), Due.BEYOND);
        Due.is("hour MAX", x.hour(Integer.MAX_VALUE), Due.BEYOND);
        Due.is("HOUR stays", x.count(2), 7);
    }
}
