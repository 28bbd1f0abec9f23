/** The boundary cases of promises 29 and 30, and of what the Terms say of VOICES, BODIES and THE TRACE. */
final class VoiceBounds {
    /** By KIND and VOICE the BODIES of a voice(), as they begin. */
    private static final int[][][] TRACES = {
        {{10}, {11, 10}, {12, 11, 10}, {13}},
        {{20, 10}, {11, 20, 10}, {12, 11, 20, 10}, {21, 13, 11, 20, 10}},
        {{10}, {30, 11, 10}, {12, 30, 11, 10}, {13}},
        {{10}, {11, 10}, {40, 12, 11, 10}, {13}},
        {{50, 20, 10}, {11, 50, 20, 10}, {51, 12, 11, 50, 20, 10}, {21, 13, 11, 50, 20, 10}},
        {{10}, {60, 30, 11, 10}, {12, 60, 30, 11, 10}, {13}},
        {{70}, {71, 11, 70}, {12, 71, 11, 70}, {13}},
    };

    private VoiceBounds() {
    }

    static void run() {
        numbers();
        glassBodies();
        kindBodies();
        wraps();
        cuts();
        parted();
        voice();
        trace();
        traceOfLatest();
    }

    /** A GLASS with the number k, of a KIND, with m. */
    private static GlassTax glass(int k, int kind, int m) {
        GlassTax x = new GlassTax();
        for (int i = 0; i < k; i++) {
            x.glass(35, i, 0);
        }
        x.glass(10 * kind + m, k, 0);
        return x;
    }

    private static int says(int k, int kind, int m, int voice, int v) {
        return glass(k, kind, m).voice(k, voice, v);
    }

    private static void numbers() {
        Due.says(0, "4. VOICES of a GLASS, with a number x (ints that wrap); k is the number, m as told: "
            + "0 gleams, 1 glints, 2 fades, 3 parts.");
        for (int k = 0; k < 8; k++) {
            Due.is("gleams of number " + k, says(k, 0, 9, 0, 100), 100 + k);
            Due.is("glints of number " + k, says(k, 0, 9, 1, 100), 200 + 2 * k);
            Due.is("fades of number " + k, says(k, 0, 9, 2, 100), 191 + 2 * k);
            Due.is("parts of number " + k, says(k, 0, 9, 3, 100), 100 / (9 - k));
        }
    }

    private static void glassBodies() {
        Due.says(0, "BODIES: Glass: 10 gleams: x + k. 11 glints: gleams(x) * 2. 12 fades: glints(x) - m. "
            + "13 parts: x by (m - k), cut (PARTED if that is 0; that is all that voice() answers then).");
        for (int m = 0; m < 10; m++) {
            Due.is("fades with m " + m, says(3, 0, m, 2, 5), 16 - m);
            Due.is("parts with m " + m, says(3, 0, m, 3, 60), m == 3 ? Due.PARTED : 60 / (m - 3));
        }
        Due.is("0 by 1 is 0, and no ERROR", says(0, 0, 1, 3, 0), 0);
        Due.is("1 by 9 is 0, and no ERROR", says(0, 0, 9, 3, 1), 0);
        Due.is("0 by 0", says(0, 0, 0, 3, 0), Due.PARTED);
        Due.is("by -7", says(7, 0, 0, 3, 50), -7);
    }

    private static void kindBodies() {
        Due.says(0, "Spoon: 20 gleams: super.gleams(x) - 4. 21 parts: super.parts(x) + glints(1).");
        kind(1, 12 - 4, (12 - 4) * 2, (12 - 4) * 2 - 7, 2 + (1 + 2 - 4) * 2);
        Due.says(0, "Pane: 30 glints: 0 - super.glints(x).");
        kind(2, 12, -24, -24 - 7, 2);
        Due.says(0, "Lake: 40 fades: super.fades(x / 2).");
        kind(3, 12, 24, (5 + 2) * 2 - 7, 2);
        Due.says(0, "Bowl: 50 gleams: super.gleams(x) * 3. 51 fades: super.fades(x) ^ k.");
        kind(4, (12 - 4) * 3, (12 - 4) * 3 * 2, (12 - 4) * 3 * 2 - 7 ^ 2, 2 + (1 + 2 - 4) * 3 * 2);
        Due.is("fades of a bowl where bits meet", says(2, 4, 5, 2, 10), 43 ^ 2);
        Due.is("fades of a bowl, 7 in 7", says(7, 4, 1, 2, -2), (-2 + 7 - 4) * 6 - 1 ^ 7);
        Due.says(0, "Lamped: 60 glints: super.glints(x + 1).");
        kind(5, 12, -26, -26 - 7, 2);
        Due.says(0, "Silvered: 70 gleams: 9. 71 glints: super.glints(x) + m.");
        kind(6, 9, 9 * 2 + 7, 9 * 2 + 7 - 7, 2);
        Due.says(0, "gleams(..) is the BODY of its KIND, or of the next KIND above that has one; "
            + "super.gleams(..) that from the KIND above the BODY's on.");
        Due.is("glints of a bowl are by its own gleams", says(0, 4, 0, 1, 5), 6);
        Due.is("what a silvered one gleams does not hear x", says(0, 6, 0, 0, 100), 9);
        Due.is("fades of a silvered one are by its own glints", says(0, 6, 1, 2, 100), 9 * 2 + 1 - 1);
        Due.is("a bowl has parts of a spoon, with its own glints", says(0, 4, 1, 3, 100), 100 + (1 - 4) * 3 * 2);
        Due.is("the KIND that it has become", become(), 8);
    }

    private static int become() {
        GlassTax x = glass(2, 0, 0);
        x.voice(2, 0, 10);
        x.become(2, 17);
        return x.voice(2, 0, 10);
    }

    /** What the VOICES of number 2 with m 7 answer to 10. */
    private static void kind(int kind, int... answers) {
        for (int voice = 0; voice < 4; voice++) {
            Due.is("KIND " + kind + " VOICE " + voice, says(2, kind, 7, voice, 10), answers[voice]);
        }
    }

    private static void wraps() {
        Due.says(29, "A VOICE of a GLASS: any number.");
        int max = Integer.MAX_VALUE;
        int min = Integer.MIN_VALUE;
        Due.is("gleams of MAX", says(1, 0, 0, 0, max), min);
        Due.is("gleams of MIN", says(0, 0, 0, 0, min), min);
        Due.is("glints of 2 to the 30th", says(0, 0, 0, 1, 1 << 30), min);
        Due.is("glints of MAX", says(0, 0, 0, 1, max), -2);
        Due.is("fades of MIN", says(0, 0, 1, 2, min), -1);
        Due.is("fades of 2 to the 30th", says(0, 0, 1, 2, 1 << 30), max);
        Due.is("gleams of MIN in a spoon", says(0, 1, 0, 0, min), max - 3);
        Due.is("glints of 2 to the 30th in a pane", says(0, 2, 0, 1, 1 << 30), min);
        Due.is("gleams of 2 to the 30th in a bowl", says(4, 4, 0, 0, 1 << 30), -(1 << 30));
        Due.is("glints of MAX in a lamped one", says(0, 5, 0, 1, max), 0);
        Due.is("glints of MAX in a lamped one, number 1", says(1, 5, 0, 1, max), -2);
        Due.is("parts of MIN by -1", says(1, 0, 0, 3, min), min);
        Due.is("parts of MIN by 1", says(0, 0, 1, 3, min), min);
        GlassTax x = glass(0, 0, 0);
        for (int k = 1; k <= 6; k++) {
            Due.is("as a number, not as an ERROR", x.voice(0, 0, -1000000000 - k), -1000000000 - k);
        }
        for (int k = 1; k <= 6; k++) {
            Due.is("no ERROR " + k, x.told(k), 0);
        }
    }

    private static void cuts() {
        Due.says(0, "Quotients are cut toward 0.");
        Due.is("-9 by 5", says(2, 0, 7, 3, -9), -1);
        Due.is("9 by -5", says(5, 0, 0, 3, 9), -1);
        Due.is("-9 by -5", says(5, 0, 0, 3, -9), 1);
        Due.is("-4 by 5", says(2, 0, 7, 3, -4), 0);
        Due.is("fades of a lake, -5", says(0, 3, 0, 2, -5), -4);
        Due.is("fades of a lake, 5", says(0, 3, 0, 2, 5), 4);
        Due.is("fades of a lake, -1", says(0, 3, 0, 2, -1), 0);
    }

    private static void parted() {
        Due.says(29, "PARTED.");
        for (int kind = 0; kind < 7; kind++) {
            for (int k = 0; k < 8; k += 7) {
                GlassTax x = glass(k, kind, k);
                Due.is("PARTED, KIND " + kind, x.voice(k, 3, 5), Due.PARTED);
                Due.is("VOICE 4 is asked ahead of PARTED", x.voice(k, 4, 5), Due.BEYOND);
                Due.is("told", x.told(6), 1);
                Due.is("gleams are not", x.voice(k, 0, 5) == Due.PARTED ? 1 : 0, 0);
                Due.is("glints are not", x.voice(k, 1, 5) == Due.PARTED ? 1 : 0, 0);
                Due.is("fades are not", x.voice(k, 2, 5) == Due.PARTED ? 1 : 0, 0);
                Due.is("told", x.told(6), 1);
                x.become(k, 10 * kind + k + 1);
                Due.is("m is k + 1", x.voice(k, 3, 5) == Due.PARTED ? 1 : 0, 0);
            }
        }
        Due.is("m is k - 1", says(5, 0, 4, 3, 8), -8);
    }

    private static void voice() {
        Due.says(29, "BEYOND.");
        GlassTax x = glass(2, 0, 7);
        Due.is("voice -1", x.voice(2, -1, 0), Due.BEYOND);
        Due.is("voice 4", x.voice(2, 4, 0), Due.BEYOND);
        Due.is("glass -1", x.voice(-1, 0, 0), Due.BEYOND);
        Due.is("glass 3", x.voice(3, 0, 0), Due.BEYOND);
        Due.is("glass MAX", x.voice(Integer.MAX_VALUE, 0, 0), Due.BEYOND);
        Due.is("voice MIN", x.voice(2, Integer.MIN_VALUE, 0), Due.BEYOND);
        Due.is("told", x.told(1), 6);
        Due.is("no GLASS at all", new GlassTax().voice(0, 0, 0), Due.BEYOND);
        Due.is("the greatest of both", x.voice(2, 3, 10), 2);
    }

    private static void isTrace(String call, GlassTax x, int... bodies) {
        Due.is(call + ", BODIES", x.count(5), bodies.length);
        for (int i = 0; i < bodies.length; i++) {
            Due.is(call + ", body " + i, x.body(i), bodies[i]);
        }
        Due.is(call + ", no more", x.body(bodies.length), Due.NONE);
    }

    private static void trace() {
        Due.says(0, "THE TRACE: the numbers of BODIES of the latest voice(), as they began "
            + "(what stands left is worked out first), the first 30.");
        Due.says(30, "THE TRACE's i-th.");
        for (int kind = 0; kind < 7; kind++) {
            GlassTax x = glass(2, kind, 7);
            for (int voice = 0; voice < 4; voice++) {
                x.voice(2, voice, 10);
                isTrace("KIND " + kind + " VOICE " + voice, x, TRACES[kind][voice]);
            }
        }
        Due.says(30, "NONE: there is none such.");
        GlassTax x = glass(0, 4, 7);
        Due.is("at first", x.body(0), Due.NONE);
        Due.is("the longest there is", x.voice(0, 3, 1) == Due.PARTED ? 1 : 0, 0);
        int[] none = {-1, 6, 29, 30, 31, Integer.MIN_VALUE, Integer.MAX_VALUE};
        for (int i : none) {
            Due.is("body " + i, x.body(i), Due.NONE);
        }
        Due.is("the last", x.body(5), 10);
        Due.is("never BEYOND", x.told(1), 0);
    }

    private static void traceOfLatest() {
        GlassTax x = glass(2, 4, 7);
        x.voice(2, 2, 10);
        x.voice(2, 0, 10);
        isTrace("a shorter one behind a longer", x, 50, 20, 10);
        x.voice(0, 2, 10);
        isTrace("of another GLASS", x, 40, 12, 11, 10);
        Due.is("BEYOND", x.voice(2, 4, 10), Due.BEYOND);
        isTrace("BEYOND changes nothing", x, 40, 12, 11, 10);
        x.become(0, 10);
        isTrace("become changes nothing", x, 40, 12, 11, 10);
        x.become(0, 30);
        Due.is("PARTED", x.become(0, 0) == 3 ? x.voice(0, 3, 10) : 0, Due.PARTED);
        isTrace("of one PARTED", x, 13);
        x.become(0, 10);
        Due.is("PARTED in a spoon", x.voice(0, 3, 10), Due.PARTED);
        Due.is("what began ahead of it", x.body(0), 21);
        Due.is("what began ahead of it", x.body(1), 13);
        x.voice(1, 0, 10);
        isTrace("the latest", x, 10);
    }
}
