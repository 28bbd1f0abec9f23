/** Promises 29 and 30: voices and THE TRACE. */
public final class VoicesTest {
    public static void main(String[] args) {
        answers();
        bodies();
        wraps();
        parted();
        partedTraces();
        Due.end();
    }

    /** A GLASS of a KIND with m 7, which is number 2. */
    private static GlassTax third(int kind) {
        GlassTax x = new GlassTax();
        x.glass(0, 0, 0);
        x.glass(0, 1, 0);
        x.glass(10 * kind + 7, 2, 0);
        return x;
    }

    private static void answers() {
        int[][] by = {
            {12, 24, 17, 2}, {8, 16, 9, 0}, {12, -24, -31, 2}, {12, 24, 7, 2}, {24, 48, 43, 0}, {12, -26, -33, 2},
            {9, 25, 18, 2},
        };
        // glints(1) of a spoon is (1 + 2 - 4) * 2, of a bowl three times as much; parts(10) of a glass is 10 / 5.
        by[1][3] = 2 - 2;
        by[4][3] = 2 - 6;
        for (int kind = 0; kind < 7; kind++) {
            GlassTax x = third(kind);
            for (int voice = 0; voice < 4; voice++) {
                Due.is("kind " + kind + " voice " + voice, x.voice(2, voice, 10), by[kind][voice]);
            }
        }
    }

    private static void bodies() {
        int[][][] traces = {
            {{10}, {11, 10}, {12, 11, 10}, {13}},
            {{20, 10}, {11, 20, 10}, {12, 11, 20, 10}, {21, 13, 11, 20, 10}},
            {{10}, {30, 11, 10}, {12, 30, 11, 10}, {13}},
            {{10}, {11, 10}, {40, 12, 11, 10}, {13}},
            {{50, 20, 10}, {11, 50, 20, 10}, {51, 12, 11, 50, 20, 10}, {21, 13, 11, 50, 20, 10}},
            {{10}, {60, 30, 11, 10}, {12, 60, 30, 11, 10}, {13}},
            {{70}, {71, 11, 70}, {12, 71, 11, 70}, {13}},
        };
        for (int kind = 0; kind < 7; kind++) {
            GlassTax x = third(kind);
            for (int voice = 0; voice < 4; voice++) {
                x.voice(2, voice, 10);
                int[] trace = traces[kind][voice];
                Due.is("count", x.count(5), trace.length);
                for (int i = 0; i < trace.length; i++) {
                    Due.is("kind " + kind + " voice " + voice + " body " + i, x.body(i), trace[i]);
                }
                Due.is("no more", x.body(trace.length), Due.NONE);
            }
            Due.is("body -1", x.body(-1), Due.NONE);
            Due.is("body 30", x.body(30), Due.NONE);
        }
    }

    private static void wraps() {
        GlassTax x = third(0);
        Due.is("wraps", x.voice(2, 0, Integer.MAX_VALUE), Integer.MIN_VALUE + 1);
        Due.is("wraps", x.voice(2, 1, 1 << 30), Integer.MIN_VALUE + 4);
        Due.is("cut", x.voice(2, 3, -9), -1);
        x.become(2, 1);
        Due.is("the least by -1", x.voice(2, 3, Integer.MIN_VALUE), Integer.MIN_VALUE);
        x.become(2, 37);
        Due.is("half of it, cut", x.voice(2, 2, -5), -7);
        x.become(2, 0);
        Due.is("any number", x.voice(2, 0, Due.BEYOND - 2), Due.BEYOND);
        Due.is("no ERROR", x.told(1), 0);
    }

    private static void parted() {
        GlassTax x = third(0);
        Due.is("glass 3", x.voice(3, 0, 0), Due.BEYOND);
        Due.is("glass -1", x.voice(-1, 0, 0), Due.BEYOND);
        Due.is("voice 4", x.voice(2, 4, 0), Due.BEYOND);
        Due.is("voice -1", x.voice(2, -1, 0), Due.BEYOND);
        x.voice(2, 2, 0);
        Due.is("count", x.count(5), 3);
        x.become(2, 12);
        Due.is("no GLASS", x.voice(3, 0, 5), Due.BEYOND);
        Due.is("no VOICE", x.voice(2, 4, 5), Due.BEYOND);
        Due.is("BEYOND leaves THE TRACE", x.count(5), 3);
        Due.is("BEYOND leaves THE TRACE", x.body(0), 12);
        Due.is("PARTED", x.voice(2, 3, 5), Due.PARTED);
        Due.is("told PARTED", x.told(6), 1);
        x.become(2, 2);
        Due.is("PARTED", x.voice(2, 3, 0), Due.PARTED);
        x.become(2, 42);
        Due.is("PARTED", x.voice(2, 3, 0), Due.PARTED);
        Due.is("not PARTED any more", x.voice(2, 0, 4), (4 + 2 - 4) * 3);
        Due.is("told PARTED", x.told(6), 3);
        Due.is("count", x.count(5), 3);
        Due.is("body", x.body(0), 50);
    }

    /** THE TRACE of one that is PARTED: what began, up to the BODY that parts. */
    private static void partedTraces() {
        int[][] traces = {{13}, {21, 13}, {13}, {13}, {21, 13}, {13}, {13}};
        for (int kind = 0; kind < 7; kind++) {
            GlassTax x = third(kind);
            x.voice(2, 2, 10);
            x.become(2, 10 * kind + 2);
            Due.is("PARTED", x.voice(2, 3, 10), Due.PARTED);
            int[] trace = traces[kind];
            Due.is("kind " + kind + " bodies of one PARTED", x.count(5), trace.length);
            for (int i = 0; i < trace.length; i++) {
                Due.is("kind " + kind + " parted body " + i, x.body(i), trace[i]);
            }
            Due.is("no more", x.body(trace.length), Due.NONE);
            Due.is("BEYOND", x.voice(2, 4, 10), Due.BEYOND);
            Due.is("BEYOND leaves THE TRACE", x.body(0), trace[0]);
            x.image();
            x.restore();
            Due.is("restore leaves THE TRACE", x.count(5), trace.length);
        }
    }
}
