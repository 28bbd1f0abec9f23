/** What the tests share: a count of wrong answers, the ERRORS, and short ways to say long calls. */
final class Due {
    static final int BEYOND = -1000000001;
    static final int NONE = -1000000002;
    static final int STATE = -1000000003;
    static final int FULL = -1000000004;
    static final int KIND = -1000000005;
    static final int PARTED = -1000000006;
    static final int[] WILD = {Integer.MIN_VALUE, Integer.MAX_VALUE, -1, 1000};

    private static int wrong = 0;
    private static int asked = 0;
    private static String said = "";

    private Due() {
    }

    /** What follows is for a sentence of a promise (or of another section of Doc), word by word as the document has it. */
    static void says(int section, String sentence) {
        said = Doc.name(section) + ", '" + sentence + "': ";
        is("the document has this sentence", Doc.quote(section, sentence) ? 1 : 0, 1);
    }

    static void is(String call, long got, long want) {
        asked++;
        if (got != want) {
            wrong++;
            System.out.println(said + call + " answered " + got + ", due is " + want);
        }
    }

    static void isText(String call, String got, String want) {
        is(call + " (" + got + ", due is " + want + ")", got.equals(want) ? 1 : 0, 1);
    }

    static void isTrue(String call, boolean holds) {
        is(call, holds ? 1 : 0, 1);
    }

    static void end() {
        System.out.println(asked + " answers looked at, " + wrong + " wrong");
        if (wrong != 0 || asked == 0) {
            System.exit(1);
        }
    }

    /** Feeds a text byte by byte; how many bytes THE TAPE has then. */
    static int feed(GlassTax x, String text) {
        int many = 0;
        for (int i = 0; i < text.length(); i++) {
            many = x.feed(text.charAt(i), 1);
        }
        return many;
    }

    /** Feeds a text by eight bytes a call, where calls are dear. */
    static int feedWords(GlassTax x, String text) {
        int many = 0;
        for (int i = 0; i < text.length(); i += 8) {
            long word = 0;
            int n = Math.min(8, text.length() - i);
            for (int j = n - 1; j >= 0; j--) {
                word = word << 8 | text.charAt(i + j);
            }
            many = x.feed(word, n);
        }
        return many;
    }

    static int text(GlassTax x, int use, String text) {
        feedWords(x, text);
        return x.text(use);
    }

    /** What a TEXT of FEE makes of n, k, m; a fault's answer, if it has one. */
    static int fee(String text, int n, int k, int m) {
        GlassTax x = new GlassTax();
        int read = text(x, 0, text);
        return read == 1 ? x.law(0, n, k, m) : read;
    }

    /** The same of DUE and t, h, p. */
    static int due(String text, int t, int h, int p) {
        GlassTax x = new GlassTax();
        int read = text(x, 1, text);
        return read == 1 ? x.law(1, t, h, p) : read;
    }
}
