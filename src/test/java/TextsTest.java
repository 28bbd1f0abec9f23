/** Promises 14 to 17: THE TAPE, TEXTS and what they give. */
public final class TextsTest {
    public static void main(String[] args) {
        feed();
        texts();
        manyTexts();
        signs();
        faults();
        open();
        laws();
        everyShortTape();
        Due.end();
    }

    private static void feed() {
        GlassTax x = new GlassTax();
        Due.is("feed 0", x.feed(0, 0), Due.BEYOND);
        Due.is("feed 9", x.feed(0, 9), Due.BEYOND);
        Due.is("feed -1", x.feed(0, -1), Due.BEYOND);
        long word = 0;
        String digits = "+1+1+1+1";
        for (int i = 7; i >= 0; i--) {
            word = word << 8 | digits.charAt(i);
        }
        Due.is("feed 1", x.feed('7', 1), 1);
        for (int i = 0; i < 7; i++) {
            Due.is("feed 8", x.feed(word, 8), 9 + 8 * i);
        }
        Due.is("57 bytes and 4", x.feed(word, 4), Due.FULL);
        Due.is("beyond ahead of full", x.feed(word, 9), Due.BEYOND);
        Due.is("57 bytes and 2", x.feed(word, 2), 59);
        Due.is("count", x.count(3), 59);
        Due.is("text", x.text(0), 1);
        Due.is("7 and 29 times 1", x.law(0, 0, 0, 0), 36);
        Due.is("THE TAPE is empty", x.count(3), 0);
    }

    private static void texts() {
        GlassTax x = new GlassTax();
        Due.is("use 2", Due.text(x, 2, "1"), Due.BEYOND);
        Due.is("use -1", x.text(-1), Due.BEYOND);
        Due.is("THE TAPE stays", x.count(3), 1);
        Due.is("text", x.text(1), 1);
        Due.is("law", x.law(1, 50, 0, 0), 1);
        Due.is("fault", Due.text(x, 1, "2+"), -12);
        Due.is("THE TAPE is empty", x.count(3), 0);
        Due.is("the one ahead stays", x.law(1, 50, 0, 0), 1);
        Due.is("in place of it", Due.text(x, 1, "2"), 1);
        Due.is("law", x.law(1, 50, 0, 0), 2);
        Due.is("of the other USE there is none", x.law(0, 1, 2, 3), 3);
        Due.is("untell", x.untell(1), 1);
        Due.is("untell", x.untell(1), 0);
        Due.is("untell 2", x.untell(2), Due.BEYOND);
        Due.is("untell -1", x.untell(-1), Due.BEYOND);
        Due.is("law", x.law(1, 50, 0, 0), 50);
        Due.is("empty tape", x.text(0), -10);
        Due.is("faults are no ERRORS", x.told(1), 4);
    }

    private static void manyTexts() {
        GlassTax x = new GlassTax();
        for (int i = 0; i < 10; i++) {
            Due.is("text " + i, Due.text(x, i % 2, "1+2+3+4+5+6+7+8+" + i), 1);
            Due.is("law " + i, x.law(i % 2, 0, 0, 0), 36 + i);
        }
    }

    private static void signs() {
        Due.is("* ahead of +", Due.fee("1+2*3", 0, 0, 0), 7);
        Due.is("from the left", Due.fee("20-5-3", 0, 0, 0), 12);
        Due.is("from the left", Due.fee("48/4/3", 0, 0, 0), 4);
        Due.is("from the left", Due.fee("7*5%4*2", 0, 0, 0), 6);
        Due.is("by 0", Due.fee("5+7/0", 0, 0, 0), 5);
        Due.is("rest by 0", Due.fee("5+7%0", 0, 0, 0), 5);
        Due.is("cut", Due.fee("50+n/2", -7, 0, 0), 47);
        Due.is("rest below 0", Due.fee("50+n%4", -7, 0, 0), 47);
        Due.is("not", Due.fee("!0*10+!5", 0, 0, 0), 10);
        Due.is("not of not", Due.fee("!!9", 0, 0, 0), 1);
        Due.is("less", Due.fee("(2<3)*10+(3<3)", 0, 0, 0), 10);
        Due.is("more", Due.fee("(3>2)*10+(3>3)", 0, 0, 0), 10);
        Due.is("as much", Due.fee("(3=3)*10+(3=2)", 0, 0, 0), 10);
        Due.is("+ ahead of <", Due.fee("1+1<3", 0, 0, 0), 1);
        Due.is("& ahead of |", Due.fee("1|0&0", 0, 0, 0), 1);
        Due.is("& of any", Due.fee("7&8", 0, 0, 0), 1);
        Due.is("& of 0", Due.fee("7&0", 0, 0, 0), 0);
        Due.is("| of any", Due.fee("0|8", 0, 0, 0), 1);
        Due.is("| of 0", Due.fee("0|0|0", 0, 0, 0), 0);
        Due.is("< ahead of &", Due.fee("1<2&2<1", 0, 0, 0), 0);
        Due.is("( )", Due.fee("(1+2)*3", 0, 0, 0), 9);
        Due.is("names", Due.fee("n*9+k*3+m", 5, 2, 1), 52);
        Due.is("names", Due.due("t*9+h*3+p", 5, 2, 1), 52);
        Due.is("n is no NAME of DUE", Due.due("n", 0, 0, 0), -10);
        Due.is("wraps", Due.due("t*t", 65536, 0, 0), 0);
        Due.is("wraps", Due.due("t+1<0", Integer.MAX_VALUE, 0, 0), 1);
        Due.is("the least by -1", Due.due("t/h=t", Integer.MIN_VALUE, -1, 0), 1);
        Due.is("the rest of the least by -1", Due.due("t%h=0", Integer.MIN_VALUE, -1, 0), 1);
        Due.is("0 ahead", Due.fee("0012", 0, 0, 0), 12);
        Due.is("9999", Due.due("9999/11", 0, 0, 0), 909);
    }

    private static void faults() {
        String[] texts = {"", " 1", "1 ", "1+", "+1", "n5", "5n", "12345", "1<2<3", "1=2>3", "(1<2)<3", "()", "(1", "1)",
            "(1))", "t", "1&", "1||2", "!", "1!", "n*(k+m", "n*(k+m)*", "1<2+3<4", "1|2<3&4=5|6", "1<2=3", "123n", "\u00ff"};
        int[] fee = {0, 0, 1, 2, 0, 1, 1, 4, 3, 3, -1, 1, 2, 1, 3, 0, 2, 2, 1, 1, 6, 8, 5, -1, 3, 3, 0};
        for (int i = 0; i < texts.length; i++) {
            GlassTax x = new GlassTax();
            Due.is("text " + texts[i], Due.text(x, 0, texts[i]), fee[i] < 0 ? 1 : -10 - fee[i]);
        }
        GlassTax x = new GlassTax();
        for (int i = 0; i < 30; i++) {
            Due.feed(x, "1+");
        }
        Due.is("60 bytes, too early", x.text(0), -70);
        Due.is("k is no NAME of DUE", Due.due("t+k", 0, 0, 0), -12);
        Due.is("h is no NAME of FEE", Due.fee("h", 0, 0, 0), -10);
    }

    private static void open() {
        Due.is("5 (", Due.fee("(((((7)))))", 0, 0, 0), 7);
        Due.is("6 (", Due.fee("((((((7))))))", 0, 0, 0), -15);
        Due.is("5 !", Due.fee("!!!!!7", 0, 0, 0), 0);
        Due.is("6 !", Due.fee("!!!!!!7", 0, 0, 0), -15);
        Due.is("mixed", Due.fee("!(!(!7))", 0, 0, 0), 0);
        Due.is("mixed 6", Due.fee("!(!(!!7))", 0, 0, 0), -15);
        Due.is("mixed 7", Due.fee("!(!(!(7)))", 0, 0, 0), -15);
        Due.is("mixed 8", Due.fee("(!((!(7)))", 0, 0, 0), -15);
        Due.is("closed again", Due.fee("!1+!1+!0+(1)+(1)+(1)+(!0)+!(0)", 0, 0, 0), 6);
        Due.is("open after closed", Due.fee("(((((1)))+!(!0)))", 0, 0, 0), 1);
    }

    private static void laws() {
        GlassTax x = new GlassTax();
        Due.is("FEE is m", x.law(0, 1, 2, 3), 3);
        Due.is("FEE, 0", x.law(0, 1, 2, -3), 0);
        Due.is("FEE, 99", x.law(0, 1, 2, 100), 99);
        Due.is("DUE is t", x.law(1, 1, 2, 3), 1);
        Due.is("DUE, 0", x.law(1, -1, 2, 3), 0);
        Due.is("DUE, 999", x.law(1, 1000, 2, 3), 999);
        Due.is("law 2", x.law(2, 1, 2, 3), Due.BEYOND);
        Due.is("law -1", x.law(-1, 1, 2, 3), Due.BEYOND);
        Due.is("held", Due.fee("100", 0, 0, 0), 99);
        Due.is("held", Due.fee("0-1", 0, 0, 0), 0);
        Due.is("held", Due.due("1000", 0, 0, 0), 999);
        Due.is("held", Due.due("0-1", 0, 0, 0), 0);
        Due.text(x, 0, "n*10+k");
        x.glass(37, 2, 0);
        x.glass(47, 4, 1);
        Due.is("two met, by their places in the row", x.look(3, 3, 3), 37);
        Due.is("one met", x.look(5, 3, 3), 14);
    }

    /** FAULT is where no TEXT goes on: a tape that ends too early has one behind it that does not fault there. */
    private static void everyShortTape() {
        String bytes = "n1!()+*<=&|x";
        int[] at = new int[5];
        for (int i = 0; i < 12 * 12 * 12 * 12; i++) {
            StringBuilder tape = new StringBuilder();
            for (int j = 0, rest = i; j < 4; j++, rest /= 12) {
                at[j] = rest % 12;
                tape.append(bytes.charAt(at[j]));
            }
            Due.is("text " + tape, Due.fee(tape.toString(), 2, 3, 4), PlainModel.feeOrFault(tape.toString(), 2, 3, 4));
        }
    }
}
