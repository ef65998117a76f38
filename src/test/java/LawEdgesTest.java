/** The edges of promises 7 to 9: THE TAPE, THE LAW as a TEXT, what a FIGURE brings. */
public final class LawEdgesTest extends Sentences {
    public static void main(String[] args) {
        bytesOfTape();
        tapeFull();
        lines();
        whichLineCounts();
        comparings();
        numbers();
        names();
        open();
        noBlanks();
        wraps();
        divides();
        truths();
        binding();
        endsTooEarly();
        firstByte();
        lawStays();
        longTexts();
        held();
        withoutText();
        brings();
        end();
    }

    private static void bytesOfTape() {
        sentence("Promise 7: A byte (0 .. 255) comes to THE TAPE: how many it has. BAD");
        CutFromOthers x = new CutFromOthers();
        dueOfAll("feed", BAD, x::feed, -1, 256, MIN, MAX, 256 + 'w');
        due("count(2)", x.count(2), 0);
        due("feed(0)", x.feed(0), 1);
        due("feed(255)", x.feed(255), 2);
        due("feed(-1)", x.feed(-1), BAD);
        due("feed(256)", x.feed(256), BAD);
        due("count(2)", x.count(2), 2);
        for (int letter = 0; letter <= 255; letter++) {
            CutFromOthers one = new CutFromOthers();
            one.feed(letter);
            due("a text of byte " + letter, one.law(), textOfOne(letter));
        }
    }

    private static int textOfOne(int letter) {
        if ("wfacnk0123456789".indexOf(letter) >= 0) {
            return 1;
        }
        return "(!-".indexOf(letter) >= 0 ? -101 : -100;
    }

    private static void tapeFull() {
        sentence("Promise 7: THE TAPE (at most 120 bytes). FULL (120)");
        CutFromOthers x = new CutFromOthers();
        for (int n = 1; n <= 120; n++) {
            due("byte " + n, x.feed(n < 120 ? '-' : 'w'), n);
        }
        due("byte 121", x.feed('1'), FULL);
        due("byte 121, once more", x.feed(0), FULL);
        dueOfAll("byte 121 that is none", BAD, x::feed, -1, 256);
        due("count(2)", x.count(2), 120);
        due("law(): the seventh - is too many", x.law(), -106);
        due("count(2)", x.count(2), 0);
        due("the first byte of the next one", x.feed('5'), 1);
        due("law()", x.law(), 1);
    }

    private static int worked(String text) {
        CutFromOthers x = with(ONE, ONE, TEE);
        x.mend(2, 0, 200);
        x.mend(2, 1, 3);
        x.mend(2, 2, 10);
        due("law " + text, law(x, text), 1);
        return x.brings(2, 6, 5);
    }

    private static void worth(String text, int want) {
        due("brings by " + text, worked(text), want);
    }

    private static void fault(String text, int place) {
        due("law " + text, law(new CutFromOthers(), text), -100 - place);
    }

    private static void lines() {
        sentence("Terms 1: LINES, one or more, parted by ;. LINE: E, or E ? E");
        worth("5", 5);
        worth("5;6", 5);
        worth("1?5", 5);
        worth("1?5;6", 5);
        fault("", 0);
        fault(";", 0);
        fault("?", 0);
        fault("5;", 2);
        fault(";5", 0);
        fault("5;;6", 2);
        fault("5?", 2);
        fault("5?;6", 2);
        fault("?5", 0);
        fault("5?6?7", 3);
        fault("5?6;", 4);
        fault("5?6;?", 4);
        fault("(5?6)", 2);
        fault("(5;6)", 2);
        fault("5,6", 1);
    }

    private static void whichLineCounts() {
        sentence("Terms 1: The first LINE without a first E, or whose first E is not 0, counts; none: 0");
        worth("0?5", 0);
        worth("0?5;0?6", 0);
        worth("0?5;6", 6);
        worth("0?5;6;7", 6);
        worth("1?5;2?6", 5);
        worth("-1?5;6", 5);
        worth("0?5;1?6;7", 6);
        worth("0?5;0", 0);
        worth("0;5", 0);
        worth("1?0;5", 0);
        worth("0?1;0?2;0?3;4", 4);
        // it wraps to 0
        worth("65*65*65*65*256*256*256*256?5;6", 6);
    }

    private static void comparings() {
        sentence("Terms 1: B = S, or S < S, S = S, S > S");
        worth("1<2", 1);
        worth("2<2", 0);
        worth("3<2", 0);
        worth("1=2", 0);
        worth("2=2", 1);
        worth("3=2", 0);
        worth("1>2", 0);
        worth("2>2", 0);
        worth("3>2", 1);
        worth("-1<0", 1);
        worth("0-1>0", 0);
        fault("1<2<3", 3);
        fault("1=1=1", 3);
        fault("3>2>1", 3);
        fault("1<=2", 2);
        worth("(3>2)>0", 1);
        worth("1<2&2<3|3<1", 1);
    }

    private static void numbers() {
        sentence("Terms 1: O = a number (1 to 4 digits)");
        worth("0", 0);
        worth("9", 9);
        worth("10", 10);
        worth("9999", 9999);
        worth("0007", 7);
        worth("0000", 0);
        fault("00000", 4);
        fault("12345", 4);
        fault("1+12345", 6);
        fault("(12345", 5);
        fault("1234w", 4);
        fault("12w", 2);
        fault("w1", 1);
        fault("1(", 1);
        fault("1!", 1);
        fault("1.5", 1);
    }

    private static void names() {
        sentence("Terms 1: NAMES: w WORTH, f FADES, a years from YEAR (without sign), c cells, n cut ahead, k the FIGURE");
        worth("w", 200);
        worth("f", 3);
        worth("a", 4);
        worth("c", 4);
        worth("n", 5);
        worth("k", 2);
        fault("ww", 1);
        fault("wf", 1);
        fault("W", 0);
        fault("b", 0);
        fault("wx", 1);
        CutFromOthers x = with(tenInOneRow());
        x.mend(8, 2, 99);
        law(x, "a");
        due("years ahead of YEAR", x.brings(8, 0, 0), 99);
        due("in it", x.brings(8, 99, 0), 0);
        due("years behind YEAR", x.brings(0, 99, 0), 99);
        law(x, "c*10+k");
        due("24 cells, figure 8", x.brings(8, 0, 0), 248);
        due("23 cells, figure 9", x.brings(9, 0, 0), 239);
        due("5 cells, figure 0", x.brings(0, 0, 0), 50);
        law(x, "n");
        due("n 0", x.brings(0, 0, 0), 0);
        due("n 99", x.brings(0, 0, 99), 99);
    }

    private static void open() {
        sentence("Terms 1: At most 6 of ( ! - ahead of an O are open at once");
        String[] six = {"((((((5))))))", "!!!!!!5", "------5", "(!-(!-5))", "(-(-(-5)))", "!-!-!-5", "1+((((((5))))))-!!!!!!0"};
        int[] values = {5, 1, 5, 1, -5, 0, 6};
        for (int i = 0; i < six.length; i++) {
            worth(six[i], Math.max(0, values[i]));
        }
        String signs = "(!-";
        for (int bits = 0; bits < 2187; bits++) {
            StringBuilder seven = new StringBuilder();
            for (int i = 0, rest = bits; i < 7; i++, rest /= 3) {
                seven.append(signs.charAt(rest % 3));
            }
            fault(seven.toString(), 6);
        }
        fault("(((((((5)))))))", 6);
        fault("!!!!!!!5", 6);
        fault("-------5", 6);
        fault("((((((!5))))))", 6);
        fault("1+(((((((5", 8);
        worth("((((((5))))))*((((((2))))))", 10);
        worth("!0+!0+!0+!0+!0+!0+!0+!0", 8);
        worth("((5)+(6))+((((((7))))))", 18);
        worth("-1*-1*-1*-1*-1*-1*-1*-1", 1);
        worth("((((((5)))))-!!!!!5)", 5);
        fault("((((((5)))))-!!!!!!5)", 18);
        worth("((((((5))))-!!!!5))", 4);
        worth("1?((((((5))))))", 5);
        worth("((((((1))))))?!!!!!!5;6", 1);
        worth("0?1;------1?((((((5))))))", 5);
        fault("1?(((((((5", 8);
        fault("(((((((1", 6);
        fault("1;(((((((1", 8);
        fault("1;2?!!!!!!!1", 10);
        fault("((((((5))))-!!!!!0))", 16);
    }

    private static void noBlanks() {
        sentence("Terms 1: No blanks");
        fault(" 5", 0);
        fault("5 ", 1);
        fault("5 +6", 1);
        fault("5+ 6", 2);
        fault("- 5", 1);
        fault("5; 6", 2);
        fault("5\t", 1);
        fault("5\n", 1);
        fault("5" + (char) 0, 1);
        fault("5" + (char) 160, 1);
        fault("5" + (char) 255, 1);
    }

    private static void wraps() {
        sentence("Terms 1: Ints that wrap");
        // 2 to the 31st is 32768 * 65536; numbers have four digits at most
        String least = "8192*4*8192*8";
        worth(least + "<0", 1);
        worth(least + "-1>0", 1);
        worth(least + "-1+1<0", 1);
        worth("-(" + least + ")<0", 1);
        worth("-(" + least + ")=" + least, 1);
        worth("(" + least + ")/-1=" + least, 1);
        worth("(" + least + ")%-1", 0);
        worth("(" + least + ")*2", 0);
        worth("(" + least + ")-(" + least + ")", 0);
        worth("(" + least + "-1)*(" + least + "-1)", 1);
        worth("9999*9999*9999", Math.max(0, Math.min(9999, 9999 * 9999 * 9999)));
        worth("9999*9999*9999%1000+1000", 9999 * 9999 * 9999 % 1000 + 1000);
    }

    private static void divides() {
        sentence("Terms 1: / and % toward 0, by 0 they give 0");
        worth("7/2", 3);
        worth("-7/2+9", 6);
        worth("7/-2+9", 6);
        worth("-7/-2", 3);
        worth("7%4", 3);
        worth("-7%4+9", 6);
        worth("7%-4", 3);
        worth("-7%-4+9", 6);
        worth("1/2", 0);
        worth("-1/2", 0);
        worth("5/0", 0);
        worth("5%0", 0);
        worth("0/0", 0);
        worth("0%0", 0);
        worth("-5/0+3", 3);
        worth("-5%0+3", 3);
        worth("5/(1-1)+2", 2);
        worth("5%(1-1)+2", 2);
        worth("0/5+0%5", 0);
    }

    private static void truths() {
        sentence("Terms 1: | & < = > ! give 1, 0");
        worth("7|9", 1);
        worth("7|0", 1);
        worth("0|9", 1);
        worth("0|0", 0);
        worth("7&9", 1);
        worth("7&8", 1);
        worth("7&0", 0);
        worth("0&9", 0);
        worth("!7", 0);
        worth("!1", 0);
        worth("!0", 1);
        worth("!-1", 0);
        worth("!!7", 1);
        worth("-1|0", 1);
        worth("-1&-2", 1);
        worth("1|0/0|5%0", 1);
        fault("1||1", 2);
        fault("1&&1", 2);
        fault("1!=2", 1);
    }

    private static void binding() {
        sentence("Terms 1: E = A { | A }. A = B { & B }. S = P { + P, - P }. P = O { * O, / O, % O }. O = ! O, - O, ( E )");
        worth("1|1&0", 1);
        worth("(1|1)&0", 0);
        worth("0&0|1", 1);
        worth("1&2>3", 0);
        worth("2>1&5", 1);
        worth("1+2*3", 7);
        worth("2*3+1", 7);
        worth("(1+2)*3", 9);
        worth("9-3-2", 4);
        worth("9-(3-2)", 8);
        worth("100/5/2", 10);
        worth("100/5*2", 40);
        worth("100%7*2", 4);
        worth("2*7%4", 2);
        worth("-2+3", 1);
        worth("-2*-3", 6);
        worth("!0*5", 5);
        worth("!5+1", 1);
        worth("!(5-5)", 1);
        worth("--5", 5);
        worth("9--5", 14);
        worth("9-!5", 9);
        worth("1+2=3", 1);
        worth("1<2+3", 1);
        worth("1?0|7", 1);
        worth("0|7?5;6", 5);
        fault("+5", 0);
        fault("*5", 0);
        fault("5+*6", 2);
        fault("5+|6", 2);
        fault("()", 1);
        fault("(5", 2);
        fault("5)", 1);
        fault("((5)", 4);
        fault("(5))", 3);
    }

    private static void endsTooEarly() {
        sentence("Terms 1: FAULT: the length, if it ends too early");
        fault("", 0);
        String[] begun = {"(", "!", "-", "5+", "5-", "5*", "5/", "5%", "5<", "5=", "5>", "5&", "5|", "5?", "5;", "(5", "((5)",
            "((((((", "!!!!!!", "------", "((((((5)))))", "w?(", "w?w;", "9999+"};
        for (String text : begun) {
            fault(text, text.length());
        }
        StringBuilder full = new StringBuilder();
        for (int i = 0; i < 60; i++) {
            full.append("1+");
        }
        fault(full.toString(), 120);
    }

    private static void firstByte() {
        sentence("Terms 1: FAULT: the place (from 0) of the first byte with which no TEXT goes on");
        fault("x", 0);
        fault(")", 0);
        fault("5x6x", 1);
        fault("5+6)7)", 3);
        fault("5+6+7+x", 6);
        fault("1<2=", 3);
        fault("(1<2)<2<", 7);
        fault("(1;", 2);
        fault("((((((1;", 7);
        StringBuilder full = new StringBuilder();
        for (int i = 0; i < 59; i++) {
            full.append("1+");
        }
        fault(full + "1x", 119);
        fault(full + "1)", 119);
        fault(full + "+x", 118);
    }

    private static void lawStays() {
        sentence("Promise 8: THE TAPE becomes THE LAW: 1; -100 less its FAULT; THE TAPE is empty then");
        CutFromOthers x = with(ONE);
        due("no text", x.law(), -100);
        due("it brings its worth", x.brings(0, 0, 0), 100);
        due("a good one", law(x, "7"), 1);
        due("the tape", x.count(2), 0);
        due("it brings", x.brings(0, 0, 0), 7);
        due("a fault", law(x, "8+"), -102);
        due("the tape", x.count(2), 0);
        due("it brings", x.brings(0, 0, 0), 7);
        due("a fault behind a whole line", law(x, "8;9x"), -103);
        due("it brings", x.brings(0, 0, 0), 7);
        due("no text", x.law(), -100);
        due("it brings", x.brings(0, 0, 0), 7);
        due("a shorter one", law(x, "9"), 1);
        due("it brings", x.brings(0, 0, 0), 9);
        due("a byte, not yet a law", x.feed('5'), 1);
        due("it brings", x.brings(0, 0, 0), 9);
        due("its worth as the text", law(x, "+w-f*a"), 1);
        due("it brings", x.brings(0, 0, 0), 105);
    }

    private static void longTexts() {
        sentence("Terms 1: THE LAW is a TEXT by THE TAPE (at most 120 bytes)");
        CutFromOthers x = with(ONE);
        StringBuilder sum = new StringBuilder("11");
        StringBuilder lines = new StringBuilder();
        StringBuilder names = new StringBuilder();
        StringBuilder signs = new StringBuilder();
        for (int i = 0; i < 59; i++) {
            sum.append("+1");
            names.append("w+");
        }
        for (int i = 0; i < 30; i++) {
            lines.append(i < 29 ? "0?1;" : "1?88");
        }
        for (int i = 0; i < 14; i++) {
            signs.append("!!!!!!w+");
        }
        due("120 bytes: a sum", law(x, sum.toString()), 1);
        due("it brings", x.brings(0, 0, 0), 70);
        due("120 bytes: 30 lines", law(x, lines.toString()), 1);
        due("it brings", x.brings(0, 0, 0), 88);
        due("119 bytes: names", law(x, names + "w"), 1);
        due("it brings", x.brings(0, 0, 0), 6000);
        CutFromOthers y = with(ONE);
        due("119 bytes: signs", law(y, signs + "!!!!!!w"), 1);
        due("it brings", y.brings(0, 0, 0), 15);
        String deep = "0|1&1<1+1*(0|1&1<1+1*(0|1&1<1+1*(0|1&1<1+1*(0|1&1<1+1*(0|1&1<1+1*(0|1&1<1+1*2))))))";
        due("all that waits", law(y, deep), 1);
        due("it brings", y.brings(0, 0, 0), 1);
        String added = "1+2*(1+2*(1+2*(1+2*(1+2*(1+2*(1+2*3))))))";
        due("all that waits", law(y, added), 1);
        due("it brings", y.brings(0, 0, 0), 511);
    }

    private static void held() {
        sentence("Terms 1: what a FIGURE brings in a year (held within 0 .. 9999)");
        worth("0", 0);
        worth("1", 1);
        worth("0-1", 0);
        worth("-9999", 0);
        worth("9998", 9998);
        worth("9999", 9999);
        worth("9999+1", 9999);
        worth("8192*4*8192*8", 0);
        worth("8192*4*8192*8-1", 9999);
        CutFromOthers x = cutting(new int[] {FIVE}, ONE);
        law(x, "9999*9");
        due("when", x.when(0, 1), 9999);
        due("richest", x.richest(0, 0, -1), 9999);
        due("cut", x.cut(0), 9999);
        due("led", x.led(2), 9999);
        CutFromOthers y = cutting(new int[] {FIVE}, ONE);
        law(y, "-5");
        due("when", y.when(0, 1), 0);
        due("richest", y.richest(0, 0, -1), 0);
        due("cut", y.cut(0), 0);
        due("led", y.led(2), 0);
    }

    private static void withoutText() {
        sentence("Terms 1: Without a text: w less f times a; 0 at least");
        CutFromOthers x = with(ONE);
        x.mend(0, 0, 999);
        x.mend(0, 1, 9);
        due("99 years behind", x.brings(0, 99, 0), 999 - 891);
        x.mend(0, 2, 99);
        due("99 years ahead", x.brings(0, 0, 99), 999 - 891);
        due("in its year", x.brings(0, 99, 99), 999);
        due("a year ahead", x.brings(0, 98, 0), 990);
        x.mend(0, 0, 19);
        due("2 years: 1", x.brings(0, 97, 0), 1);
        x.mend(0, 0, 18);
        due("2 years: 0", x.brings(0, 97, 0), 0);
        x.mend(0, 0, 17);
        due("2 years: 0 at least", x.brings(0, 97, 0), 0);
        due("99 years: 0 at least", x.brings(0, 0, 0), 0);
    }

    private static void brings() {
        sentence("Promise 9: What a FIGURE brings in a year (0 .. 99), n (0 .. 99) cut ahead. BAD");
        CutFromOthers x = with(1, 2, 3, 4, 5, 6, 7, 8, 9, 10);
        law(x, "a*100+n");
        due("year 0, n 0", x.brings(0, 0, 0), 0);
        due("year 99, n 99", x.brings(9, 99, 99), 9999);
        due("year 99, n 0", x.brings(9, 99, 0), 9900);
        due("year 0, n 99", x.brings(9, 0, 99), 99);
        dueOfAll("figure", BAD, f -> x.brings(f, 0, 0), -1, 10, MIN, MAX);
        dueOfAll("year", BAD, year -> x.brings(0, year, 0), -1, 100, MIN, MAX);
        dueOfAll("n", BAD, n -> x.brings(0, 0, n), -1, 100, MIN, MAX);
        dueOfAll("figure of two", BAD, f -> with(ONE, TWO).brings(f, 0, 0), -1, 2, 9);
    }
}
