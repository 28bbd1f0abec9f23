/** The boundary cases of promises 36 to 41, of ERRORS, and of the 512 calls of an object. */
final class KeptBounds {
    private KeptBounds() {
    }

    static void run() {
        image();
        imageKeepsAll();
        imageKeepsNot();
        imageOfNothing();
        restore();
        tell();
        check();
        checkPlaces();
        count();
        told();
        errors();
        lastCall();
    }

    private static void image() {
        Due.says(36, "All (but SHEETS, THE TRACE, what told() tells, and how often this was done) is kept as an IMAGE, "
            + "in place of one ahead: how often that was done.");
        GlassTax x = new GlassTax();
        for (int i = 1; i <= 100; i++) {
            Due.is("image", x.image(), i);
        }
        x.hour(7);
        Due.is("image", x.image(), 101);
        x.hour(8);
        Due.is("restore", x.restore(), 7);
        Due.is("how often stays", x.image(), 102);
        x.hour(9);
        Due.is("in place of one ahead", x.restore(), 7);
    }

    /** Every part of all that is kept is told ahead of the IMAGE and changed behind it, and again behind its restore. */
    private static void imageKeepsAll() {
        GlassTax x = new GlassTax();
        x.glass(34, 2, 1);
        x.glass(0, 63, 3);
        x.person(0, 1);
        x.person(63, 2);
        Due.text(x, 0, "m+n");
        Due.text(x, 1, "t+p");
        x.hours(3);
        x.pay(0, 4);
        x.seed(-7);
        x.tell(11);
        x.tell(3);
        Due.feed(x, "7*k");
        Due.is("image", x.image(), 1);
        // What is kept stays as it is, too: only the IMAGE is another one.
        holdsAll(x);
        for (int i = 0; i < 3; i++) {
            changeAll(x);
            Due.is("restore", x.restore(), 3);
            holdsAll(x);
        }
        x.restore();
        Due.is("no TEXT of DUE by these bytes", x.text(1), -12);
        x.restore();
        Due.is("the CELL of what came behind the IMAGE is free", x.glass(0, 1, 0), 2);
        Due.is("the CELL of what was there is not", x.glass(0, 2, 0), Due.STATE);
        x.restore();
        Due.is("looks go by where they hang again", x.look(18, 0, 3), 5);
    }

    private static void changeAll(GlassTax x) {
        x.become(0, 59);
        x.spin(0, 0);
        x.hang(0, 1);
        x.glass(0, 2, 0);
        x.stand(0, 9, 2);
        x.person(5, 0);
        x.hours(5);
        x.pay(1, 1);
        x.check();
        x.tell(5);
        x.tell(5);
        x.tell(5);
        x.text(0);
        Due.feed(x, "!!!!");
        x.untell(1);
        x.loose(2);
    }

    private static void holdsAll(GlassTax x) {
        int[][] glasses = {{3, 4, 2, 1, 3}, {0, 0, 63, 3, 0}};
        int[][] people = {{0, 1, 11, 5}, {63, 2, 3, 1}};
        int[] counts = {2, 2, 3, 3, 2};
        for (int i = 0; i < 2; i++) {
            for (int what = 0; what < 5; what++) {
                Due.is("glassIs " + i + " " + what, x.glassIs(i, what), glasses[i][what]);
            }
            for (int what = 0; what < 4; what++) {
                Due.is("personIs " + i + " " + what, x.personIs(i, what), people[i][what]);
            }
        }
        for (int i = 0; i < 5; i++) {
            Due.is("count " + i, x.count(i), counts[i]);
        }
        Due.is("z", x.count(6), -7);
        Due.is("FEE", x.law(0, 1, 2, 3), 4);
        Due.is("DUE", x.law(1, 5, 2, 3), 8);
        Due.is("the numbers that wait", x.check(), 0);
        Due.is("the bytes", x.text(0), 1);
        Due.is("the bytes", x.law(0, 0, 9, 0), 63);
    }

    private static void imageKeepsNot() {
        GlassTax x = new GlassTax();
        x.glass(0, 0, 3);
        x.sheet(0, 8, 1);
        x.sheet(1, 8, 1);
        x.voice(0, 0, 1);
        x.image();
        x.sheet(0, 16, 2);
        x.put(0, 1, 2);
        x.sheet(1, 0, 0);
        x.sheet(2, 8, 1);
        x.voice(0, 1, 1);
        x.glass(70, 0, 0);
        Due.is("restore", x.restore(), 0);
        Due.is("a SHEET stays", x.put(0, 1, 3), 1);
        Due.is("missing stays", x.put(1, 0, 0), Due.NONE);
        Due.is("a new SHEET stays", x.put(2, 0, 0), 1);
        Due.is("THE TRACE stays", x.count(5), 2);
        Due.is("THE TRACE stays", x.body(0), 11);
        Due.is("told stays", x.told(1), 1);
        Due.is("told stays", x.told(2), 1);
    }

    private static void imageOfNothing() {
        GlassTax x = new GlassTax();
        Due.is("of a new object", x.image(), 1);
        for (int i = 0; i < 8; i++) {
            x.glass(0, i, 0);
        }
        for (int i = 0; i < 6; i++) {
            x.person(0, 1);
        }
        for (int i = 0; i < 24; i++) {
            x.tell(i);
        }
        Due.text(x, 0, "9");
        for (int i = 0; i < 7; i++) {
            x.feed(0, 8);
        }
        x.feed(0, 4);
        x.loose(24);
        Due.is("full", x.image(), 2);
        x.check();
        x.text(0);
        Due.is("restore", x.restore(), 24);
        int[] counts = {8, 6, 24, 60, 24};
        for (int i = 0; i < 5; i++) {
            Due.is("full again, count " + i, x.count(i), counts[i]);
        }
        Due.is("FULL", x.glass(0, 20, 0), Due.FULL);
        Due.is("FULL", x.person(0, 0), Due.FULL);
        Due.is("FULL", x.feed(0, 1), Due.FULL);
        Due.is("FULL", x.tell(0), Due.FULL);
        GlassTax y = new GlassTax();
        y.image();
        y.glass(0, 0, 0);
        y.person(0, 0);
        y.tell(0);
        y.feed(0, 1);
        y.loose(1);
        Due.is("back to nothing", y.restore(), 0);
        int[] first = {0, 0, 0, 0, 0, 0, 1};
        for (int i = 0; i < 7; i++) {
            Due.is("back to nothing, count " + i, y.count(i), first[i]);
        }
        Due.is("no GLASS", y.glassIs(0, 0), Due.BEYOND);
        Due.is("the CELL is free", y.glass(0, 0, 0), 0);
    }

    private static void restore() {
        Due.says(37, "All is as the IMAGE has it, which stays: HOUR.");
        GlassTax x = new GlassTax();
        x.hour(9999);
        x.image();
        x.hour(0);
        for (int i = 0; i < 3; i++) {
            Due.is("restore", x.restore(), 9999);
            x.person(0, 0);
            x.hour(i);
        }
        Due.is("the IMAGE has none", x.restore(), 9999);
        Due.is("the IMAGE has none", x.count(1), 0);
        Due.says(37, "NONE: there is none.");
        GlassTax y = new GlassTax();
        y.hour(5);
        Due.is("restore", y.restore(), Due.NONE);
        Due.is("HOUR stays", y.count(2), 5);
        Due.is("none came by it", y.restore(), Due.NONE);
        Due.is("image", y.image(), 1);
        Due.is("restore", y.restore(), 5);
    }

    private static void tell() {
        Due.says(38, "One more number waits: how many.");
        GlassTax x = new GlassTax();
        int[] any = {0, -1, Integer.MIN_VALUE, Integer.MAX_VALUE, Due.FULL};
        for (int i = 0; i < 24; i++) {
            Due.is("tell", x.tell(any[i % 5]), i + 1);
        }
        Due.says(38, "FULL: 24 wait.");
        Due.is("a 25th", x.tell(0), Due.FULL);
        Due.is("a 25th again", x.tell(0), Due.FULL);
        Due.is("24 wait", x.count(4), 24);
        Due.is("none waits then", x.check() == 1 ? x.tell(5) : 0, 1);
        Due.is("told", x.told(4), 2);
    }

    private static void check() {
        Due.says(39, "The numbers that wait (none do then) are what PEOPLE 0, 1, .. OWE: 0;");
        GlassTax x = new GlassTax();
        Due.is("none waits", x.check(), 0);
        Due.text(x, 1, "p*100+7");
        for (int i = 0; i < 6; i++) {
            x.person(0, 0);
        }
        Due.is("none waits", x.check(), 0);
        x.hours(1);
        for (int many = 0; many <= 6; many++) {
            for (int i = 0; i < many; i++) {
                x.tell(100 * i + 7);
            }
            Due.is("all " + many + " are so", x.check(), 0);
            Due.is("none waits then", x.count(4), 0);
        }
        x.tell(7);
        x.pay(0, 7);
        Due.is("what is owed now", x.check(), 1);
        x.tell(0);
        Due.is("what is owed now", x.check(), 0);
    }

    private static void checkPlaces() {
        Due.says(39, "else 1 and the place (from 0) of the first that isn't so (or for which there is nobody).");
        GlassTax x = new GlassTax();
        x.tell(0);
        Due.is("there is nobody", x.check(), 1);
        Due.is("none waits then", x.count(4), 0);
        for (int i = 0; i < 6; i++) {
            x.person(0, 0);
        }
        for (int place = 0; place < 6; place++) {
            for (int i = 0; i < 6; i++) {
                x.tell(i >= place ? 1 : 0);
            }
            Due.is("the first that isn't so is at " + place, x.check(), 1 + place);
            Due.is("none waits then", x.count(4), 0);
        }
        for (int i = 0; i < 7; i++) {
            x.tell(0);
        }
        Due.is("for the seventh there is nobody", x.check(), 7);
        for (int i = 0; i < 24; i++) {
            x.tell(i == 4 ? -1 : 0);
        }
        Due.is("24 wait, the fifth isn't so", x.check(), 5);
        x.tell(Integer.MIN_VALUE);
        Due.is("MIN is not 0", x.check(), 1);
        for (int k = 1; k <= 6; k++) {
            Due.is("no ERROR " + k, x.told(k), 0);
        }
    }

    private static void count() {
        Due.says(40, "0 GLASSES, 1 PEOPLE, 2 HOUR, 3 bytes of THE TAPE, 4 numbers that wait, 5 BODIES in THE TRACE, "
            + "6 z (any number).");
        GlassTax x = new GlassTax();
        x.glass(40, 0, 0);
        x.glass(40, 1, 0);
        x.person(0, 0);
        x.person(0, 0);
        x.person(0, 0);
        x.hour(9999);
        x.feed(0, 7);
        for (int i = 0; i < 5; i++) {
            x.tell(i);
        }
        x.voice(1, 2, 0);
        x.seed(Integer.MIN_VALUE);
        int[] counts = {2, 3, 9999, 7, 5, 6, Integer.MIN_VALUE};
        for (int i = 0; i < 7; i++) {
            Due.is("count " + i, x.count(i), counts[i]);
        }
        x.seed(Due.BEYOND);
        Due.is("any number", x.count(6), Due.BEYOND);
        Due.says(40, "BEYOND.");
        int[] beyond = {-1, 7, Integer.MIN_VALUE, Integer.MAX_VALUE};
        for (int what : beyond) {
            Due.is("count " + what, x.count(what), Due.BEYOND);
        }
        Due.is("told of these alone", x.told(1), 4);
    }

    private static void told() {
        Due.says(41, "How many acts have answered an ERROR LOW - k (k 1 .. 6);");
        GlassTax x = new GlassTax();
        x.glass(0, 0, 0);
        for (int i = 1; i <= 60; i++) {
            x.feed('1', 1);
        }
        int[] asked = {3, 5, 2, 4, 6, 1};
        for (int i = 0; i < 6; i++) {
            Due.is("BEYOND", i < asked[0] ? x.spin(0, 4) : Due.BEYOND, Due.BEYOND);
            Due.is("NONE", i < asked[1] ? x.restore() : Due.NONE, Due.NONE);
            Due.is("STATE", i < asked[2] ? x.glass(0, 0, 0) : Due.STATE, Due.STATE);
            Due.is("FULL", i < asked[3] ? x.feed('1', 1) : Due.FULL, Due.FULL);
            Due.is("KIND", i < asked[4] ? x.as(0, 1) : Due.KIND, Due.KIND);
            Due.is("PARTED", i < asked[5] ? x.voice(0, 3, 1) : Due.PARTED, Due.PARTED);
        }
        for (int k = 1; k <= 6; k++) {
            Due.is("told " + k, x.told(k), asked[k - 1]);
            Due.is("told " + k + " again", x.told(k), asked[k - 1]);
        }
        Due.says(41, "BEYOND: another k (counted, too).");
        int[] beyond = {0, 7, -1, Integer.MIN_VALUE, Integer.MAX_VALUE};
        for (int i = 0; i < beyond.length; i++) {
            Due.is("told " + beyond[i], x.told(beyond[i]), Due.BEYOND);
            Due.is("counted, too", x.told(1), asked[0] + i + 1);
        }
        Due.is("the others stay", x.told(2), asked[1]);
        Due.is("a FAULT is no ERROR", x.text(0), -14);
        Due.is("the others stay", x.told(6), asked[5]);
    }

    private static void errors() {
        Due.says(0, "ERRORS are answers below -1000000000: LOW is -1000000000; LOW - 1 BEYOND, LOW - 2 NONE, LOW - 3 STATE, "
            + "LOW - 4 FULL, LOW - 5 KIND, LOW - 6 PARTED (in longs, too).");
        GlassTax x = new GlassTax();
        Due.is("BEYOND", x.count(7), -1000000001);
        Due.is("NONE", x.restore(), -1000000002);
        x.glass(0, 0, 0);
        Due.is("STATE", x.glass(0, 0, 0), -1000000003);
        for (int i = 0; i < 24; i++) {
            x.tell(0);
        }
        Due.is("FULL", x.tell(0), -1000000004);
        Due.is("KIND", x.as(0, 1), -1000000005);
        Due.is("PARTED", x.voice(0, 3, 0), -1000000006);
    }

    /** An object is used for at most 512 calls: up to the last of them every count must stand. */
    private static void lastCall() {
        GlassTax x = new GlassTax();
        for (int i = 0; i < 511; i++) {
            x.told(0);
        }
        Due.is("the 512th call", x.told(1), 511);
        GlassTax y = new GlassTax();
        for (int i = 1; i <= 511; i++) {
            y.image();
        }
        Due.is("the 512th call", y.image(), 512);
        GlassTax z = new GlassTax();
        for (int i = 0; i < 255; i++) {
            Due.is("text", i % 2 == 0 ? z.feed('n', 1) == 1 ? z.text(0) : 0 : z.feed('+', 1) == 1 ? z.text(0) : 0,
                i % 2 == 0 ? 1 : -10);
        }
        Due.is("the 511th call", z.untell(0), 1);
        Due.is("the 512th call", z.untell(0), 0);
    }
}
