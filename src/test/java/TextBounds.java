/** The boundary cases of promises 14 to 17, and of what the Terms say of TEXTS and USES. */
final class TextBounds {
    private TextBounds() {
    }

    static void run() {
        feed();
        feedFull();
        tape();
        levels();
        numbers();
        names();
        blanks();
        open();
        ints();
        quotients();
        signs();
        fault();
        faultTooEarly();
        fee();
        due();
        text();
        untell();
        law();
    }

    private static String times(String part, int n) {
        StringBuilder text = new StringBuilder();
        for (int i = 0; i < n; i++) {
            text.append(part);
        }
        return text.toString();
    }

    private static void feed() {
        Due.says(14, "The n lowest bytes (1 .. 8) of a word, the lowest first, come to THE TAPE: how many there are.");
        GlassTax x = new GlassTax();
        long word = '8' | '+' << 8 | '7' << 16 | '*' << 24 | (long) '3' << 32 | (long) '+' << 40 | (long) 'm' << 48
            | (long) '+' << 56;
        Due.is("feed 8", x.feed(word, 8), 8);
        Due.is("feed 1, what is above it doesn't matter", x.feed(~0xFFL | 'm', 1), 9);
        Due.is("text", x.text(0), 1);
        Due.is("8+7*3+m+m", x.law(0, 0, 0, 2), 33);
        Due.is("feed 7", x.feed(word, 7), 7);
        Due.is("text", x.text(0), 1);
        Due.is("8+7*3+m", x.law(0, 0, 0, 2), 31);
        Due.is("feed 2", x.feed('m' << 8 | '!', 2), 2);
        Due.is("text", x.text(0), 1);
        Due.is("!m", x.law(0, 0, 0, 0), 1);
        Due.is("bytes of 255", x.feed(-1, 8), 8);
        Due.is("are none of a TEXT", x.text(0), -10);
        x.feed('1' | 0x80 << 8, 2);
        Due.is("nor is one of 128", x.text(0), -11);
        x.feed('1', 2);
        Due.is("nor is one of 0", x.text(0), -11);
        Due.says(14, "BEYOND.");
        int[] beyond = {-1, 0, 9, 64, Integer.MIN_VALUE, Integer.MAX_VALUE};
        for (int n : beyond) {
            Due.is("feed " + n, x.feed(word, n), Due.BEYOND);
        }
        Due.is("bytes", x.count(3), 0);
    }

    private static void feedFull() {
        Due.says(14, "FULL.");
        GlassTax x = new GlassTax();
        for (int i = 1; i <= 6; i++) {
            Due.is("feed 8", x.feed(0x2B312B312B312B31L, 8), 8 * i);
        }
        Due.is("48 and 5", x.feed(0x312B312B31L, 5), 53);
        Due.is("53 and 8", x.feed(0, 8), Due.FULL);
        Due.is("nothing of it came", x.count(3), 53);
        Due.is("BEYOND is asked ahead of FULL", x.feed(0, 9), Due.BEYOND);
        Due.is("53 and 7", x.feed(0x32312B312B312BL, 7), 60);
        Due.is("60 and 1", x.feed('1', 1), Due.FULL);
        Due.is("60 and 8", x.feed('1', 8), Due.FULL);
        Due.is("BEYOND is asked ahead of FULL", x.feed('1', 0), Due.BEYOND);
        Due.is("bytes", x.count(3), 60);
        Due.is("what came is as it was", x.text(0), 1);
        Due.is("24 and 3 and 2 times 1, and 12", x.law(0, 0, 0, 0), 41);
        Due.is("room again", x.feed('1', 8), 8);
        GlassTax y = new GlassTax();
        Due.feedWords(y, times("1", 52));
        Due.is("52 and 8", y.feed(0, 8), 60);
    }

    private static void tape() {
        Due.says(0, "2. TEXTS are read from THE TAPE (bytes, at most 60):");
        String sixty = "12" + times("+1", 29);
        Due.is("bytes", sixty.length(), 60);
        Due.is("60 bytes", Due.fee(sixty, 0, 0, 0), 41);
        Due.is("1 byte", Due.fee("7", 0, 0, 0), 7);
        Due.is("60 bytes, each of which is to be worked out", Due.fee(times("!0+", 18) + "!!!!!0", 0, 0, 0), 19);
        Due.is("60 bytes, open and closed", Due.fee("(((((" + times("1+", 24) + "30)))))", 0, 0, 0), 54);
        Due.is("deep to the right", Due.fee("1|(1&(1<(1+(1*(n", 0, 0, 0), -10 - 16);
        Due.is("deep to the right", Due.fee("0|(1&(1<(1+(1*(n)))))", 1, 0, 0), 1);
        Due.is("deep to the right", Due.fee("0|(1&(1<(1+(1*(n)))))", 0, 0, 0), 0);
    }

    private static void levels() {
        Due.says(0, "T: A { | A }. A: B { & B }. B: S, or S < S, S = S, S > S. S: P { + P, - P }. P: Q { * Q, / Q, % Q }.");
        String[] texts = {"2", "2|0|0", "0&1&1", "1|0&0", "(1|0)&0", "1&2<1", "2=1+1", "5>2+2", "3<1+1", "9-5-3", "9-(5-3)",
            "9-5+3", "2+3*4", "(2+3)*4", "48/4/3", "48/(4/2)", "17%10%4", "7*5%4*2", "6/4*2", "9-4%3", "0|0|3", "1&1&0",
            "1<2&3>2|0", "0&0|1", "1+2<3*4", "(1<2)<3", "(1<2)=(2<3)", "1|1+1", "2&2=2", "3-1>1|0"};
        int[] due = {2, 1, 0, 1, 0, 0, 1, 1, 0, 1, 7, 7, 14, 20, 4, 24, 3, 6, 2, 8, 1, 0, 1, 1, 1, 1, 1, 1, 1, 1};
        for (int i = 0; i < texts.length; i++) {
            Due.is(texts[i], Due.fee(texts[i], 0, 0, 0), due[i]);
        }
        String[] two = {"1<2<3", "1=1=1", "3>2>1", "1<2=1", "1+1<3>1", "1&1<2<3", "(1<2<3)"};
        int[] at = {3, 3, 3, 3, 5, 5, 4};
        for (int i = 0; i < two.length; i++) {
            Due.is("two that compare: " + two[i], Due.fee(two[i], 0, 0, 0), -10 - at[i]);
        }
    }

    private static void numbers() {
        Due.says(0, "Q: a NUMBER of 1 to 4 digits, a NAME, ! Q, ( T ).");
        String[] texts = {"0", "9", "10", "99", "100", "998", "1000", "9999", "00", "0000", "0009", "0990"};
        int[] due = {0, 9, 10, 99, 100, 998, 999, 999, 0, 0, 9, 990};
        for (int i = 0; i < texts.length; i++) {
            Due.is(texts[i], Due.due(texts[i], 0, 0, 0), due[i]);
        }
        Due.is("9999 is all of it", Due.due("9999-9990", 0, 0, 0), 9);
        Due.is("5 digits", Due.due("10000", 0, 0, 0), -14);
        Due.is("5 digits, 0 ahead", Due.due("00001", 0, 0, 0), -14);
        Due.is("5 digits behind", Due.due("1+12345", 0, 0, 0), -16);
        Due.is("4 and a sign", Due.due("9999/9999", 0, 0, 0), 1);
        Due.is("digits one behind the other by signs", Due.due("1234%10+9", 0, 0, 0), 13);
        Due.is("the byte below 0", Due.due("/", 0, 0, 0), -10);
        Due.is("the byte above 9", Due.due(":", 0, 0, 0), -10);
        Due.is("the byte above 9", Due.due("1:", 0, 0, 0), -11);
    }

    private static void names() {
        String all = "nkmthp";
        for (int use = 0; use < 2; use++) {
            for (int i = 0; i < 6; i++) {
                GlassTax x = new GlassTax();
                boolean isName = i / 3 == use;
                String name = all.substring(i, i + 1);
                Due.is(name + " for USE " + use, Due.text(x, use, name), isName ? 1 : -10);
                Due.is("!" + name + " for USE " + use, Due.text(x, use, "!" + name), isName ? 1 : -11);
                Due.is("1+" + name + " for USE " + use, Due.text(x, use, "1+" + name), isName ? 1 : -12);
                Due.is(name + name + " for USE " + use, Due.text(x, use, name + name), isName ? -11 : -10);
                Due.is("1" + name + " for USE " + use, Due.text(x, use, "1" + name), -11);
                Due.is(name + "1 for USE " + use, Due.text(x, use, name + "1"), isName ? -11 : -10);
            }
        }
        Due.is("a capital", Due.fee("N", 1, 1, 1), -10);
        Due.is("another letter", Due.fee("x", 1, 1, 1), -10);
    }

    private static void blanks() {
        Due.says(0, "No blanks.");
        Due.is("ahead", Due.fee(" 1", 0, 0, 0), -10);
        Due.is("behind", Due.fee("1 ", 0, 0, 0), -11);
        Due.is("ahead of a sign", Due.fee("1 +1", 0, 0, 0), -11);
        Due.is("behind a sign", Due.fee("1+ 1", 0, 0, 0), -12);
        Due.is("in ( )", Due.fee("( 1)", 0, 0, 0), -11);
        Due.is("in ( )", Due.fee("(1 )", 0, 0, 0), -12);
        Due.is("behind !", Due.fee("! 1", 0, 0, 0), -11);
        Due.is("alone", Due.fee(" ", 0, 0, 0), -10);
        Due.is("a new line", Due.fee("1\n", 0, 0, 0), -11);
    }

    private static void open() {
        Due.says(0, "At most 5 of ! and ( are open at once.");
        String[] five = {"(((((7)))))", "!!!!!7", "!!!!(0)", "(!(!(7)))", "!(!(!7))", "((((!1+(7)))))", "(((((1)+1)+1)+1)+1)+1",
            "!!!!!1+!!!!!1+!!!!!0", "(((((1)))))*(((((7)))))", "!((!(1)|!0))", "(!!!!0)+((((!0))))"};
        int[] due = {7, 0, 0, 1, 0, 7, 6, 1, 7, 0, 1};
        for (int i = 0; i < five.length; i++) {
            Due.is("5 open: " + five[i], Due.fee(five[i], 0, 0, 0), due[i]);
        }
        String[] six = {"((((((7))))))", "!!!!!!7", "!!!!!(7)", "!(!(!(7)))", "(((((!7)))))", "(((((1)+(1))+((((1",
            "1+(((((1+(", "!!!!!", "(((((", "1+((((!!", "((((((", "!!!!!!"};
        int[] at = {5, 5, 5, 5, 5, 15, 9, 5, 5, 7, 5, 5};
        for (int i = 0; i < six.length; i++) {
            Due.is("6 open: " + six[i], Due.fee(six[i], 0, 0, 0), -10 - at[i]);
        }
    }

    private static void ints() {
        Due.says(0, "Ints that wrap;");
        int max = Integer.MAX_VALUE;
        int min = Integer.MIN_VALUE;
        Due.is("MAX + 1", Due.due("t+1<0", max, 0, 0), 1);
        Due.is("MAX + 1", Due.due("t+1=h", max, min, 0), 1);
        Due.is("MIN - 1", Due.due("t-1=h", min, max, 0), 1);
        Due.is("MIN * MIN", Due.due("t*t", min, 0, 0), 0);
        Due.is("65536 * 65536", Due.due("t*t+5", 65536, 0, 0), 5);
        Due.is("65536 * 32768", Due.due("t*h<0", 65536, 32768, 0), 1);
        Due.is("46341 * 46341", Due.due("t*t<0", 46341, 0, 0), 1);
        Due.is("46340 * 46340", Due.due("t*t>0", 46340, 0, 0), 1);
        Due.is("0 - MIN", Due.due("0-t=t", min, 0, 0), 1);
        Due.is("by NUMBERS alone", Due.due("0-9999*9999*9999%1000", 0, 0, 0), 969);
        Due.is("MAX against MIN", Due.due("t>h", max, min, 0), 1);
        Due.is("MIN against MAX", Due.due("t<h", min, max, 0), 1);
    }

    private static void quotients() {
        Due.says(0, "Quotients are cut toward 0.");
        Due.says(0, "/ cut, % the rest that it leaves, both by 0 are 0;");
        int[][] by = {{7, 2, 3, 1}, {-7, 2, -3, -1}, {7, -2, -3, 1}, {-7, -2, 3, -1}, {6, 2, 3, 0}, {1, 2, 0, 1}, {-1, 2, 0, -1},
            {0, 5, 0, 0}, {5, 0, 0, 0}, {-5, 0, 0, 0}, {0, 0, 0, 0}, {5, 1, 5, 0}, {5, -1, -5, 0},
            {Integer.MIN_VALUE, -1, Integer.MIN_VALUE, 0}, {Integer.MIN_VALUE, 1, Integer.MIN_VALUE, 0},
            {Integer.MAX_VALUE, -1, -Integer.MAX_VALUE, 0}, {Integer.MIN_VALUE, 0, 0, 0}};
        for (int[] b : by) {
            Due.is(b[0] + " / " + b[1], Due.due("t/h=p", b[0], b[1], b[2]), 1);
            Due.is(b[0] + " % " + b[1], Due.due("t%h=p", b[0], b[1], b[3]), 1);
        }
        Due.is("by 0 as NUMBERS", Due.fee("5/0+7%0+3", 0, 0, 0), 3);
    }

    private static void signs() {
        Due.says(0, "| & < = > ! are 1 or 0, what is not 0 being true; all is worked out.");
        int[] values = {Integer.MIN_VALUE, -2, -1, 0, 1, 2, Integer.MAX_VALUE};
        // 5 more, so that one below 0 is told from 0.
        for (int a : values) {
            Due.is("!" + a, Due.due("5+!t", a, 0, 0), a == 0 ? 6 : 5);
            Due.is("!!" + a, Due.due("5+!!t", a, 0, 0), a == 0 ? 5 : 6);
            for (int b : values) {
                Due.is(a + "|" + b, Due.due("5+(t|h)", a, b, 0), a == 0 && b == 0 ? 5 : 6);
                Due.is(a + "&" + b, Due.due("5+(t&h)", a, b, 0), a == 0 || b == 0 ? 5 : 6);
                Due.is(a + "<" + b, Due.due("5+(t<h)", a, b, 0), a < b ? 6 : 5);
                Due.is(a + "=" + b, Due.due("5+(t=h)", a, b, 0), a == b ? 6 : 5);
                Due.is(a + ">" + b, Due.due("5+(t>h)", a, b, 0), a > b ? 6 : 5);
            }
        }
        Due.is("1, not what is true", Due.fee("(7|0)+(7&8)*10+!0*20+(2<9)*40", 0, 0, 0), 71);
    }

    private static void fault() {
        Due.says(0, "FAULT: the place of the first byte with which no TEXT goes on;");
        String[] texts = {"+", ")", "1)", "(1))", "()", "(+", "1(", "(1)(1)", "(1)1", "1!", "!)", "!+", "1+*2", "1*+2", "1--1",
            "1&&1", "1||1", "1<<1", "1==1", "1<=1", "1|&1", "n+", "nn", "1,1", "1^1", "(1+2*(3-4)))", "1+2)+3", "m.", "-1", "{1}",
            "1\u00ff"};
        int[] at = {0, 0, 1, 3, 1, 1, 1, 3, 3, 1, 1, 1, 2, 2, 2, 2, 2, 2, 2, 2, 2, 2, 1, 1, 1, 11, 3, 1, 0, 0, 1};
        for (int i = 0; i < texts.length; i++) {
            Due.is("text " + texts[i], Due.fee(texts[i], 0, 0, 0), -10 - at[i]);
        }
        Due.is("the 60th byte", Due.fee(times("1+", 29) + "1)", 0, 0, 0), -10 - 59);
        Due.is("the first of several", Due.fee("1+)+)+12345", 0, 0, 0), -12);
        Due.is("a digit too much at the end", Due.fee(times("1+", 27) + "123456", 0, 0, 0), -10 - 58);
    }

    private static void faultTooEarly() {
        Due.says(0, "how many there are, if it ends too early.");
        String[] texts = {"", "1+", "n-", "1*", "1/", "1%", "1<", "1=", "1>", "1&", "1|", "!", "(", "(1", "(1+", "((1)", "!(", "!!",
            "1+(2*(3", "(((((1", "(((((1))))", "(1<2"};
        for (String text : texts) {
            Due.is("text " + text, Due.fee(text, 0, 0, 0), -10 - text.length());
        }
        Due.is("60 bytes", Due.fee(times("1+", 30), 0, 0, 0), -70);
        Due.is("59 bytes", Due.fee(times("1+", 29) + "!", 0, 0, 0), -69);
    }

    private static void fee() {
        Due.says(0, "USES: 0 FEE: NAMES n that it is the n-th that is met (1, 2, ..), k KIND, m m; held within 0 .. 99; "
            + "without a TEXT m (held likewise).");
        String[] texts = {"0-1", "0", "1", "98", "99", "100", "9999", "0-9999"};
        int[] due = {0, 0, 1, 98, 99, 99, 99, 0};
        for (int i = 0; i < texts.length; i++) {
            Due.is("FEE " + texts[i], Due.fee(texts[i], 0, 0, 0), due[i]);
        }
        GlassTax x = new GlassTax();
        int[] m = {-1, 0, 1, 98, 99, 100, Integer.MIN_VALUE, Integer.MAX_VALUE};
        int[] held = {0, 0, 1, 98, 99, 99, 0, 99};
        for (int i = 0; i < m.length; i++) {
            Due.is("FEE without a TEXT, m " + m[i], x.law(0, 50, 60, m[i]), held[i]);
        }
        x.glass(37, 2, 0);
        Due.is("without a TEXT m", x.look(10, 0, 3), 7);
        Due.text(x, 0, "n*10+k");
        Due.is("the first is met", x.look(10, 0, 3), 13);
        Due.text(x, 0, "m*10+k*3+n");
        Due.is("m, KIND and place", x.look(10, 0, 3), 80);
        GlassTax y = new GlassTax();
        y.glass(34, 2, 0);
        y.glass(2, 18, 0);
        Due.text(y, 0, "n*10+k");
        Due.is("1, 2, .. also where one is met again", y.look(16, 1, 3), 10 + 23 + 30);
    }

    private static void due() {
        Due.says(0, "1 DUE: NAMES t TAX, h HOUR's rest by 24, p whose it is; held within 0 .. 999; "
            + "without a TEXT t (held likewise).");
        String[] texts = {"0-1", "0", "1", "998", "999", "1000", "9999", "0-9999"};
        int[] due = {0, 0, 1, 998, 999, 999, 999, 0};
        for (int i = 0; i < texts.length; i++) {
            Due.is("DUE " + texts[i], Due.due(texts[i], 0, 0, 0), due[i]);
        }
        GlassTax x = new GlassTax();
        int[] t = {-1, 0, 1, 998, 999, 1000, Integer.MIN_VALUE, Integer.MAX_VALUE};
        int[] held = {0, 0, 1, 998, 999, 999, 0, 999};
        for (int i = 0; i < t.length; i++) {
            Due.is("DUE without a TEXT, t " + t[i], x.law(1, t[i], 50, 60), held[i]);
        }
        Due.says(0, "DUE of one: what the TEXT of that USE makes of TAX of the LOOK from where one STANDS.");
        x.glass(38, 2, 0);
        for (int i = 0; i < 6; i++) {
            x.person(i < 5 ? 0 : 63, 1);
        }
        Due.is("without a TEXT TAX", x.personIs(0, 3), 8);
        Due.text(x, 1, "t*100+h*4+p");
        int[] hours = {0, 1, 23, 24, 47, 48, 9999};
        int[] rests = {0, 1, 23, 0, 23, 0, 15};
        for (int i = 0; i < hours.length; i++) {
            x.hour(hours[i]);
            Due.is("DUE of 0 at " + hours[i], x.personIs(0, 3), 800 + 4 * rests[i]);
            Due.is("DUE of 4 at " + hours[i], x.personIs(4, 3), 800 + 4 * rests[i] + 4);
            Due.is("DUE of 5 at " + hours[i], x.personIs(5, 3), 4 * rests[i] + 5);
        }
    }

    private static void text() {
        Due.says(15, "THE TAPE, which is empty then, is the TEXT of a USE (0, 1), in place of one ahead: 1.");
        GlassTax x = new GlassTax();
        for (int use = 0; use < 2; use++) {
            Due.is("text " + use, Due.text(x, use, "7"), 1);
            Due.is("THE TAPE is empty", x.count(3), 0);
            Due.is("law", x.law(use, 50, 51, 52), 7);
            Due.is("in place of one ahead", Due.text(x, use, "8"), 1);
            Due.is("law", x.law(use, 50, 51, 52), 8);
            Due.is("the other USE has its own", x.law(1 - use, 50, 51, 50), use == 0 ? 50 : 8);
        }
        Due.is("a shorter one in place of a longer", Due.text(x, 0, "1+2*3+4"), 1);
        Due.is("a shorter one in place of a longer", Due.text(x, 0, "m"), 1);
        Due.is("law", x.law(0, 1, 2, 3), 3);
        for (int i = 0; i < 8; i++) {
            Due.is("a long one in place of a long one", Due.text(x, 1, i + times("+1", 29)), 1);
            Due.is("law", x.law(1, 0, 0, 0), 29 + i);
        }
        Due.says(15, "BEYOND (THE TAPE stays).");
        x.feed('5', 1);
        Due.is("text -1", x.text(-1), Due.BEYOND);
        Due.is("text 2", x.text(2), Due.BEYOND);
        Due.is("text MIN", x.text(Integer.MIN_VALUE), Due.BEYOND);
        Due.is("bytes", x.count(3), 1);
        Due.is("the same bytes", Due.text(x, 1, "0"), 1);
        Due.is("the same bytes", x.law(1, 0, 0, 0), 50);
        Due.says(15, "-10 less the FAULT (no ERROR; the one ahead stays; THE TAPE is empty, too).");
        int told = x.told(1);
        Due.is("the least", Due.text(x, 1, "+"), -10);
        Due.is("the next", Due.text(x, 1, "1)"), -11);
        Due.is("THE TAPE is empty", x.count(3), 0);
        Due.is("nothing is left of it", x.text(1), -10);
        Due.is("the greatest", Due.text(x, 1, times("1+", 30)), -70);
        Due.is("THE TAPE is empty", x.count(3), 0);
        for (int k = 1; k <= 6; k++) {
            Due.is("no ERROR " + k, x.told(k), k == 1 ? told : 0);
        }
        Due.is("the one ahead stays", x.law(1, 0, 0, 0), 50);
        Due.is("the one ahead of the other USE stays", x.law(0, 0, 0, 4), 4);
        GlassTax y = new GlassTax();
        Due.is("where there was none", Due.text(y, 0, "7+"), -12);
        Due.is("there is none", y.untell(0), 0);
    }

    private static void untell() {
        Due.says(16, "There is no TEXT of a USE any more: 1 if there was, else 0.");
        GlassTax x = new GlassTax();
        for (int use = 0; use < 2; use++) {
            Due.is("there was none", x.untell(use), 0);
        }
        for (int use = 0; use < 2; use++) {
            Due.text(x, use, "7");
        }
        for (int use = 0; use < 2; use++) {
            Due.is("there was one", x.untell(use), 1);
            Due.is("there is none", x.untell(use), 0);
            Due.is("law", x.law(use, 5, 6, 5), 5);
            Due.is("the other USE", x.law(1 - use, 5, 6, 5), use == 0 ? 7 : 5);
        }
        Due.text(x, 0, "4");
        Due.text(x, 1, "3");
        Due.is("of 1", x.untell(1), 1);
        Due.is("that of 0 stays", x.law(0, 5, 5, 5), 4);
        Due.is("of 0", x.untell(0), 1);
        Due.is("one again", Due.text(x, 1, "6"), 1);
        Due.is("law", x.law(1, 5, 5, 5), 6);
        Due.says(16, "BEYOND.");
        Due.is("untell -1", x.untell(-1), Due.BEYOND);
        Due.is("untell 2", x.untell(2), Due.BEYOND);
        Due.is("the TEXT stays", x.law(1, 5, 5, 5), 6);
    }

    private static void law() {
        Due.says(17, "What a USE gives with its NAMES in order as a, b, c (any number).");
        GlassTax x = new GlassTax();
        Due.text(x, 0, "n*9+k*3+m");
        Due.text(x, 1, "t*9+h*3+p");
        Due.is("n, k, m", x.law(0, 5, 2, 1), 52);
        Due.is("n, k, m", x.law(0, 1, 2, 5), 20);
        Due.is("t, h, p", x.law(1, 5, 2, 1), 52);
        Due.is("t, h, p", x.law(1, 1, 2, 5), 20);
        Due.is("below 0", x.law(1, -1, 4, 0), 3);
        Due.is("no rest by 24, nobody 1000", x.law(1, 0, -300, 1000), 100);
        Due.text(x, 0, "(n<0)*4+(k<0)*2+(m<0)");
        Due.is("the least", x.law(0, Integer.MIN_VALUE, Integer.MIN_VALUE, Integer.MIN_VALUE), 7);
        Due.is("the greatest", x.law(0, Integer.MAX_VALUE, Integer.MAX_VALUE, Integer.MAX_VALUE), 0);
        Due.is("HOUR doesn't matter", x.hour(23), 0);
        Due.is("t, h, p", x.law(1, 5, 2, 1), 52);
        Due.says(17, "BEYOND.");
        Due.is("law -1", x.law(-1, 0, 0, 0), Due.BEYOND);
        Due.is("law 2", x.law(2, 0, 0, 0), Due.BEYOND);
        Due.is("law MAX", x.law(Integer.MAX_VALUE, 0, 0, 0), Due.BEYOND);
    }
}
