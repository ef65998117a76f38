/** Each promise of the document by hand: ordinary inputs, the edges that it names, wrong inputs. */
public final class PromisesTest {
    private static final int BAD = -1, NOT = -2, FULL = -3, STATE = -5;
    private static final int NOTHING = -11, OTHER = -12, NO_PLACE = -13, BELOW_ZERO = -14;
    private static final int WHOLE = 33554431;
    // bars of one to four cells, a corner of three, a T of four, a plus of five
    private static final int ONE = 1, TWO = 3, THREE = 7, FOUR = 15, CORNER = 35, TEE = 71, PLUS = 2274;

    private static int wrong;
    private static int asked;

    public static void main(String[] args) {
        newObject();
        figure();
        figures();
        block();
        mend();
        of();
        feed();
        lawGood();
        lawFaults();
        brings();
        size();
        turned();
        ways();
        inside();
        around();
        common();
        longest();
        richest();
        with();
        spare();
        when();
        smallest();
        leave();
        byTurns();
        egg();
        judge();
        filled();
        last();
        drawn();
        cut();
        pass();
        led();
        imageAndBack();
        undoAndRedo();
        body();
        actAndTrace();
        keep();
        row();
        putAndElement();
        shift();
        taken();
        count();
        System.out.println(wrong == 0 ? asked + " answers are as due" : wrong + " answers are not as due");
        if (wrong != 0) {
            System.exit(1);
        }
    }

    private static void due(int promise, String call, long got, long want) {
        asked++;
        if (got != want) {
            wrong++;
            System.out.println("promise " + promise + ": " + call + " answered " + got + ", due is " + want);
        }
    }

    private static CutFromOthers with(int... shapes) {
        CutFromOthers x = new CutFromOthers();
        for (int shape : shapes) {
            x.figure(shape);
        }
        return x;
    }

    private static int law(CutFromOthers x, String text) {
        for (int i = 0; i < text.length(); i++) {
            x.feed(text.charAt(i));
        }
        return x.law();
    }

    private static void tell(CutFromOthers x, int shelf, int sort, long... values) {
        x.row(shelf, sort, values.length);
        for (int i = 0; i < values.length; i++) {
            x.put(shelf, i, values[i]);
        }
    }

    private static void newObject() {
        CutFromOthers x = new CutFromOthers();
        for (int what = 0; what <= 5; what++) {
            due(1, "count(" + what + ")", x.count(what), 0);
        }
        for (int what = 0; what <= 3; what++) {
            due(1, "led(" + what + ")", x.led(what), 0);
        }
        due(1, "of(0, 6)", x.of(0, 6), 0);
        due(1, "undo", x.undo(), STATE);
        due(1, "back", x.back(), STATE);
        for (int shelf = 0; shelf <= 5; shelf++) {
            due(1, "taken(" + shelf + ", 0)", x.taken(shelf, 0), NOTHING);
        }
    }

    private static void figure() {
        CutFromOthers x = new CutFromOthers();
        due(2, "empty", x.figure(0), BAD);
        due(2, "below 0", x.figure(-1), BAD);
        due(2, "least int", x.figure(Integer.MIN_VALUE), BAD);
        due(2, "beyond the square", x.figure(WHOLE + 1), BAD);
        due(2, "nothing came", x.count(0), 0);
        for (int i = 0; i < 10; i++) {
            due(2, "figure " + i, x.figure(i == 0 ? WHOLE : i), i);
        }
        due(2, "worth", x.of(9, 0), 100);
        due(2, "fades", x.of(9, 1), 0);
        due(2, "year", x.of(9, 2), 0);
        due(2, "the eleventh", x.figure(1), FULL);
        due(2, "BAD is named first", x.figure(0), BAD);
        due(2, "ten", x.count(0), 10);
    }

    private static void figures() {
        CutFromOthers x = new CutFromOthers();
        due(3, "a row that is missing", x.figures(0, 0, 1), 0);
        due(3, "no such shelf", x.figures(6, 0, 1), BAD);
        due(3, "no such shelf", x.figures(-1, 0, 1), BAD);
        due(3, "none", x.figures(0, 0, 0), BAD);
        due(3, "eleven", x.figures(0, 0, 11), BAD);
        x.body(0);
        x.keep(1, 0);
        due(3, "a stone", x.figures(1, 0, 1), OTHER);
        for (int sort = 0; sort < 5; sort++) {
            x.row(1, sort, 4);
            due(3, "a row of sort " + sort, x.figures(1, 0, 1), sort == 2 ? 0 : OTHER);
        }
        due(3, "BAD is named first", x.figures(1, 0, 0), BAD);
        tell(x, 0, 2, 9, TWO, 0, THREE, 999, ONE);
        due(3, "it ends within a two", x.figures(0, 1, 3), 2);
        due(3, "shape", x.of(1, 3), THREE);
        due(3, "worth 0", x.of(0, 0), 0);
        due(3, "worth 999", x.of(1, 0), 999);
        due(3, "fades", x.of(1, 1), 0);
        due(3, "no change", x.count(3), 0);
        due(3, "only n", x.figures(0, 1, 1), 1);
        due(3, "behind its end", x.figures(0, 6, 1), 0);
        due(3, "far behind its end", x.figures(0, Integer.MAX_VALUE, 1), 0);
        due(3, "ahead of it", x.figures(0, -1, 1), 0);
        CutFromOthers exact = new CutFromOthers();
        tell(exact, 0, 2, TWO, 1, THREE, 2, FOUR, 3);
        due(3, "the row's last two", exact.figures(0, 0, 3), 3);
        due(3, "the row ends", exact.figures(0, 2, 10), 2);
        tell(x, 0, 2, ONE, 5, ONE, 1000, ONE, 7);
        due(3, "a worth that is none", x.figures(0, 0, 3), 1);
        tell(x, 0, 2, ONE, -1);
        due(3, "a worth below 0", x.figures(0, 0, 1), 0);
        tell(x, 0, 2, WHOLE, 5, 0, 5);
        due(3, "a shape that is none", x.figures(0, 0, 2), 1);
        x.put(0, 2, WHOLE + 1);
        due(3, "a shape that is none", x.figures(0, 2, 1), 0);
        due(3, "five", x.count(0), 5);
        x.row(2, 2, 20);
        for (int i = 0; i < 20; i++) {
            x.put(2, i, i + 1);
        }
        due(3, "FULL after five more", x.figures(2, 0, 10), 5);
        due(3, "FULL at once", x.figures(2, 0, 10), 0);
        due(3, "the last", x.of(9, 3), 9);
        due(3, "its worth", x.of(9, 0), 10);
    }

    private static void block() {
        CutFromOthers x = new CutFromOthers();
        due(4, "empty", x.block(0), BAD);
        due(4, "below 0", x.block(-5), BAD);
        due(4, "beyond", x.block(WHOLE + 1), BAD);
        for (int i = 0; i < 6; i++) {
            due(4, "block " + i, x.block(i == 0 ? WHOLE : i), i);
        }
        due(4, "left", x.of(0, 4), WHOLE);
        due(4, "left", x.of(5, 4), 5);
        due(4, "the seventh", x.block(1), FULL);
        due(4, "BAD is named first", x.block(0), BAD);
    }

    private static void mend() {
        CutFromOthers x = with(ONE, TWO);
        due(5, "worth", x.mend(1, 0, 999), 100);
        due(5, "worth again", x.mend(1, 0, 0), 999);
        due(5, "fades", x.mend(1, 1, 9), 0);
        due(5, "year", x.mend(1, 2, 99), 0);
        due(5, "worth 1000", x.mend(1, 0, 1000), BAD);
        due(5, "fades 10", x.mend(1, 1, 10), BAD);
        due(5, "year 100", x.mend(1, 2, 100), BAD);
        for (int what = 0; what <= 2; what++) {
            due(5, "below 0", x.mend(1, what, -1), BAD);
        }
        due(5, "what 3", x.mend(1, 3, 1), BAD);
        due(5, "what -1", x.mend(1, -1, 1), BAD);
        due(5, "no such figure", x.mend(2, 0, 1), BAD);
        due(5, "no such figure", x.mend(-1, 0, 1), BAD);
        due(5, "worth is", x.of(1, 0), 0);
        due(5, "fades is", x.of(1, 1), 9);
        due(5, "year is", x.of(1, 2), 99);
        due(5, "the other one", x.of(0, 0), 100);
        due(5, "changes", x.count(3), 4);
        due(5, "the same number", x.mend(1, 2, 99), 99);
        due(5, "is no change", x.count(3), 4);
    }

    private static void of() {
        CutFromOthers x = with(16777216);
        due(6, "shape as told", x.of(0, 3), 16777216);
        due(6, "no block", x.of(0, 4), BAD);
        x.block(TWO << 10);
        due(6, "left", x.of(0, 4), TWO << 10);
        due(6, "cut of it", x.of(0, 5), 0);
        x.cut(0);
        due(6, "left, where it is", x.of(0, 4), ONE << 10);
        due(6, "cut of it", x.of(0, 5), 1);
        x.pass(7);
        due(6, "now", x.of(0, 6), 7);
        due(6, "now of 1", x.of(1, 6), BAD);
        due(6, "now of -1", x.of(-1, 6), BAD);
        due(6, "what 7", x.of(0, 7), BAD);
        due(6, "what -1", x.of(0, -1), BAD);
        for (int what = 0; what <= 5; what++) {
            due(6, "of(1, " + what + ")", x.of(1, what), BAD);
            due(6, "of(-1, " + what + ")", x.of(-1, what), BAD);
        }
    }

    private static void feed() {
        CutFromOthers x = new CutFromOthers();
        due(7, "-1", x.feed(-1), BAD);
        due(7, "256", x.feed(256), BAD);
        due(7, "0", x.feed(0), 1);
        due(7, "255", x.feed(255), 2);
        for (int i = 3; i <= 120; i++) {
            due(7, "byte " + i, x.feed('1'), i);
        }
        due(7, "the 121st", x.feed('1'), FULL);
        due(7, "BAD is named first", x.feed(256), BAD);
        due(7, "120", x.count(2), 120);
    }

    private static int worked(String text) {
        CutFromOthers x = with(ONE, CORNER);
        x.mend(1, 0, 200);
        x.mend(1, 1, 3);
        x.mend(1, 2, 10);
        due(8, "law " + text, law(x, text), 1);
        return x.brings(1, 6, 5);
    }

    private static void lawGood() {
        String[] texts = {
            "w", "f", "a", "c", "n", "k", "7", "0042", "9999", "w+f-a", "2+3*4", "(2+3)*4", "20/3", "20%3", "20/0", "20%0",
            "-7/2+9", "-7%4+9", "9-3-2", "64/4/2", "2<3", "3<2", "3=3", "3>2", "2>3", "1+1=2", "!0", "!5", "!!5", "--5",
            "5|0", "0|0", "5&4", "5&0", "0&0|1", "1|1&0", "3<5&2", "2&3=3", "!a+1", "-1", "9999+1", "9999*9999*9999*9999",
            "0?5;7", "1?5;7", "0?5", "0?5;0?6;9", "0?5;3?6;9", "-1?8;9", "5;6", "((((((8))))))", "!!!!!!1", "------8",
            "-(-(-(8)))*-1", "!1+!1+!1+!0+!0+!0+!0", "(1<2)<2", "a=4&c=3&n=5&k=1?77;66", "2*3<7", "1|0<0", "7-2+1",
            "65*65*65*65*65*65-1*0+1", "(0-9999)*9999*9999%1000+2000", "3>3", "3<3", "(0|1)+1", "1?0|1", "1?((((((8))))))",
            "((((((8))))))?((((((9))))))", "0?8;2?9", "0-1>0", "5-0*9+1", "1?2;0?3", "w-(w-(w-(w-(w-(w-7)))))"
        };
        long[] values = {
            200, 3, 4, 3, 5, 1, 7, 42, 9999, 199, 14, 20, 6, 2, 0, 0,
            6, 6, 4, 8, 1, 0, 1, 1, 0, 1, 1, 0, 1, 5,
            1, 0, 1, 0, 1, 1, 1, 1, 1, 0, 9999, wrapped(9999 * 9999 * 9999 * 9999),
            7, 5, 0, 9, 6, 8, 5, 8, 1, 8,
            8, 4, 1, 77, 1, 1, 6,
            wrapped(65 * 65 * 65 * 65 * 65 * 65 + 1), wrapped(-9999 * 9999 * 9999 % 1000 + 2000), 0, 0, 2, 1, 8,
            9, 9, 0, 6, 2, 7
        };
        due(8, "as many values as texts", values.length, texts.length);
        for (int i = 0; i < Math.min(values.length, texts.length); i++) {
            due(8, "worked out " + texts[i], worked(texts[i]), values[i]);
        }
        CutFromOthers x = with(ONE);
        law(x, "5");
        due(8, "the tape is empty", x.count(2), 0);
        due(8, "a fault", law(x, "6+"), -102);
        due(8, "the tape is empty", x.count(2), 0);
        due(8, "the law stays", x.brings(0, 0, 0), 5);
        due(8, "no text", x.law(), -100);
        due(8, "the law stays", x.brings(0, 0, 0), 5);
        due(8, "another law", law(x, "6"), 1);
        due(8, "it counts", x.brings(0, 0, 0), 6);
        StringBuilder longest = new StringBuilder("11");
        for (int i = 0; i < 59; i++) {
            longest.append("+1");
        }
        due(8, "120 bytes", law(x, longest.toString()), 1);
        due(8, "worked out", x.brings(0, 0, 0), 70);
        StringBuilder lines = new StringBuilder();
        for (int i = 0; i < 30; i++) {
            lines.append(i < 29 ? "0?1;" : "1?88");
        }
        due(8, "30 lines", law(x, lines.toString()), 1);
        due(8, "the last counts", x.brings(0, 0, 0), 88);
    }

    private static int wrapped(int value) {
        return value < 0 ? 0 : Math.min(value, 9999);
    }

    private static void fault(String text, int place) {
        due(8, "law " + text, law(new CutFromOthers(), text), -100 - place);
    }

    private static void lawFaults() {
        fault("", 0);
        fault("w+", 2);
        fault("w w", 1);
        fault(" w", 0);
        fault("12345", 4);
        fault("1w", 1);
        fault("w1", 1);
        fault("ww", 1);
        fault("x", 0);
        fault("W", 0);
        fault("w;", 2);
        fault(";w", 0);
        fault("w;;w", 2);
        fault("w?", 2);
        fault("?w", 0);
        fault("w?w?w", 3);
        fault("(w?w)", 2);
        fault("(w;w)", 2);
        fault("(w", 2);
        fault("(", 1);
        fault("()", 1);
        fault("w)", 1);
        fault("(w))", 3);
        fault("1<2<3", 3);
        fault("1=2>3", 3);
        fault("1<2+3=4", 5);
        fault("1||2", 2);
        fault("1&&2", 2);
        fault("+1", 0);
        fault("1!2", 1);
        fault("1(2)", 1);
        fault("*1", 0);
        fault("(((((((w)))))))", 6);
        fault("!!!!!!!1", 6);
        fault("-------1", 6);
        fault("((!(-(!1))))", 6);
        fault("((!(-(1)))", 10);
        fault("(!-(!-(1", 6);
        fault("((((((1-1))))))-", 16);
        fault("((((((-1))))))", 6);
        fault("1" + (char) 200, 1);
        fault((char) 0 + "1", 0);
    }

    private static void brings() {
        CutFromOthers x = with(ONE);
        x.mend(0, 0, 50);
        x.mend(0, 1, 4);
        x.mend(0, 2, 20);
        due(9, "in its year", x.brings(0, 20, 0), 50);
        due(9, "two years ahead", x.brings(0, 18, 99), 42);
        due(9, "two years behind", x.brings(0, 22, 0), 42);
        due(9, "12 behind", x.brings(0, 32, 0), 2);
        due(9, "13 behind: 0 at least", x.brings(0, 33, 0), 0);
        due(9, "year 100", x.brings(0, 100, 0), BAD);
        due(9, "year -1", x.brings(0, -1, 0), BAD);
        due(9, "n 100", x.brings(0, 0, 100), BAD);
        due(9, "n -1", x.brings(0, 0, -1), BAD);
        due(9, "no such figure", x.brings(1, 0, 0), BAD);
        due(9, "no such figure", x.brings(-1, 0, 0), BAD);
        law(x, "9999+n");
        due(9, "9999 at most", x.brings(0, 99, 99), 9999);
        law(x, "10-n");
        due(9, "held at 0", x.brings(0, 99, 99), 0);
        due(9, "by n", x.brings(0, 0, 3), 7);
    }

    private static void size() {
        CutFromOthers x = with(1 << 24 | 1 << 12, FOUR << 21, WHOLE);
        due(10, "cells", x.size(0, 0), 2);
        due(10, "wide", x.size(0, 1), 3);
        due(10, "tall", x.size(0, 2), 3);
        due(10, "wide bar", x.size(1, 1), 4);
        due(10, "tall bar", x.size(1, 2), 1);
        due(10, "whole", x.size(2, 0) * 100 + x.size(2, 1) * 10 + x.size(2, 2), 2555);
        x.figure(1 << 7);
        due(10, "one", x.size(3, 0) * 100 + x.size(3, 1) * 10 + x.size(3, 2), 111);
        x.figure(3 << 7 | 3 << 12);
        due(10, "two by two", x.size(4, 0) * 100 + x.size(4, 1) * 10 + x.size(4, 2), 422);
        due(10, "what 3", x.size(0, 3), BAD);
        due(10, "what -1", x.size(0, -1), BAD);
        due(10, "no such figure", x.size(5, 0), BAD);
        due(10, "no such figure", x.size(-1, 0), BAD);
    }

    private static void turned() {
        CutFromOthers x = with(THREE << 11 | 1 << 18);
        due(11, "0", x.turned(0, 0), 7 | 4 << 5);
        due(11, "1", x.turned(0, 1), 2 | 2 << 5 | 3 << 10);
        due(11, "2", x.turned(0, 2), 1 | 7 << 5);
        due(11, "3", x.turned(0, 3), 3 | 1 << 5 | 1 << 10);
        due(11, "4", x.turned(0, 4), BAD);
        due(11, "-1", x.turned(0, -1), BAD);
        due(11, "no such figure", x.turned(1, 0), BAD);
        due(11, "no such figure", x.turned(-1, 0), BAD);
    }

    private static void ways() {
        CutFromOthers x = with(TWO, CORNER, FOUR, ONE);
        x.block(3 << 17);
        x.block(1 << 18 | 3 << 22);
        due(12, "the same shape, elsewhere", x.ways(0, 0), 2);
        due(12, "the first", x.ways(0, 1), 32);
        due(12, "as many cells", x.ways(0, 2), NOT);
        due(12, "a cell: 4 turns, 2 places", x.ways(3, 0), 8);
        due(12, "its first", x.ways(3, 1), 32);
        due(12, "lost", x.ways(3, 2), 1);
        due(12, "too long", x.ways(2, 0), 0);
        due(12, "no first", x.ways(2, 1), NOT);
        due(12, "nothing lost", x.ways(2, 2), NOT);
        due(12, "a corner turned", x.ways(11, 0), 1);
        due(12, "by two turns", x.ways(11, 1), 232);
        x.block(1 << 24);
        x.block(TWO);
        due(12, "the last of all places", x.ways(23, 1), 44);
        due(12, "4 turns", x.ways(23, 0), 4);
        due(12, "the first of all places", x.ways(33, 1), 0);
        due(12, "it is counted", x.ways(33, 0), 8);
        due(12, "a block of a high number", x.ways(32, 1), NOT);
        due(12, "what 3", x.ways(0, 3), BAD);
        due(12, "what -1", x.ways(0, -1), BAD);
        due(12, "no such figure", x.ways(4, 0), BAD);
        due(12, "no such block", x.ways(40, 0), BAD);
        due(12, "below 0", x.ways(-1, 0), BAD);
        due(12, "below 0", x.ways(-10, 0), BAD);
    }

    private static void inside() {
        CutFromOthers x = with(TWO, CORNER, 1057, 33 << 3);
        due(13, "two of a corner", x.inside(1), 1);
        due(13, "a corner of two", x.inside(10), 0);
        due(13, "two of a bar turned", x.inside(2), 1);
        due(13, "a bar of a corner", x.inside(21), 0);
        due(13, "like ones have as many cells", x.inside(3), 0);
        for (int f = 4; f < 9; f++) {
            x.figure(WHOLE);
        }
        x.figure(ONE);
        due(13, "the last figure", x.inside(98), 1);
        due(13, "out of the last figure", x.inside(89), 0);
        due(13, "one and the same", x.inside(0), BAD);
        due(13, "one and the same", x.inside(11), BAD);
        due(13, "no such", with(TWO, CORNER).inside(2), BAD);
        due(13, "no such", with(TWO, CORNER).inside(20), BAD);
        due(13, "no such", x.inside(110), BAD);
        due(13, "below 0", x.inside(-1), BAD);
    }

    private static void around() {
        CutFromOthers x = with(TWO, CORNER, THREE, PLUS, ONE);
        due(14, "out of which two", x.around(0, 0), 14);
        due(14, "out of which a corner", x.around(1, 0), 8);
        due(14, "out of which one", x.around(4, 0), 15);
        due(14, "which out of a plus", x.around(3, 1), 23);
        due(14, "which out of one", x.around(4, 1), 0);
        due(14, "what 2", x.around(0, 2), BAD);
        due(14, "what -1", x.around(0, -1), BAD);
        due(14, "no such", x.around(5, 0), BAD);
        due(14, "no such", x.around(-1, 1), BAD);
    }

    private static void common() {
        CutFromOthers x = with(TWO, CORNER, THREE, PLUS, ONE);
        due(15, "of none: all", x.common(0), 31);
        due(15, "of the first", x.common(1), 16);
        due(15, "of first and third", x.common(5), 16);
        due(15, "of corner and bar", x.common(6), 17);
        due(15, "of a plus", x.common(8), 23);
        due(15, "of all", x.common(31), 0);
        due(15, "of one that is not there", x.common(32), BAD);
        due(15, "below 0", x.common(-1), BAD);
        due(15, "no figures", new CutFromOthers().common(0), 0);
        due(15, "no figures", new CutFromOthers().common(1), BAD);
    }

    private static void longest() {
        CutFromOthers x = with(ONE, THREE, TWO, CORNER, PLUS, WHOLE);
        x.block(WHOLE);
        x.block(ONE);
        due(16, "how many", x.longest(0, -1), 4);
        due(16, "first", x.longest(0, 0), 4);
        due(16, "of like rows the first", x.longest(0, 1), 1);
        due(16, "third", x.longest(0, 2), 2);
        due(16, "fourth", x.longest(0, 3), 0);
        due(16, "no fifth", x.longest(0, 4), NOT);
        due(16, "far beyond", x.longest(0, Integer.MAX_VALUE), NOT);
        due(16, "k -2", x.longest(0, -2), BAD);
        due(16, "no such block", x.longest(2, -1), BAD);
        due(16, "no such block", x.longest(-1, -1), BAD);
        due(16, "none out of one", x.longest(1, -1), 0);
        due(16, "none out of one", x.longest(1, 0), NOT);
        CutFromOthers bars = with(31, 15, 7, 3, 1, 1023, 32767, 1048575, WHOLE - 1, WHOLE ^ 1 << 4 ^ 1);
        bars.block(WHOLE);
        due(16, "ten", bars.longest(0, -1), 10);
        due(16, "the tenth", bars.longest(0, 9), 4);
    }

    private static void richest() {
        CutFromOthers x = with(ONE, TWO, CORNER, THREE);
        x.block(PLUS);
        due(17, "three like worths", x.richest(0, 0, -1), 300);
        due(17, "the first by numbers", x.richest(0, 0, 0), 2);
        due(17, "then", x.richest(0, 0, 1), 1);
        due(17, "then", x.richest(0, 0, 2), 0);
        due(17, "there is no more", x.richest(0, 0, 3), NOT);
        x.mend(1, 0, 0);
        due(17, "of like ones the shortest", x.richest(0, 0, 1), 0);
        due(17, "of like ones the shortest", x.richest(0, 0, 2), NOT);
        x.mend(3, 0, 101);
        due(17, "most", x.richest(0, 0, -1), 201);
        due(17, "its first", x.richest(0, 0, 0), 3);
        x.mend(0, 1, 9);
        x.mend(0, 2, 99);
        due(17, "one a year, beyond 99", x.richest(0, 99, -1), 192);
        due(17, "by the years", x.richest(0, 98, -1), 201);
        due(17, "year 100", x.richest(0, 100, -1), BAD);
        due(17, "year -1", x.richest(0, -1, -1), BAD);
        due(17, "k -2", x.richest(0, 0, -2), BAD);
        due(17, "no such block", x.richest(1, 0, -1), BAD);
        law(x, "n=0?1;n=1&k=1?50;n=2?10;0");
        due(17, "by the place in the row", x.richest(0, 0, -1), 61);
        due(17, "which begins", x.richest(0, 0, 0), 2);
        CutFromOthers like = with(CORNER, 34, THREE);
        like.block(PLUS);
        like.mend(0, 0, 50);
        like.mend(1, 0, 50);
        due(17, "50 and 50, or 100", like.richest(0, 0, -1), 100);
        due(17, "the shorter one", like.richest(0, 0, 0), 2);
        due(17, "is no longer", like.richest(0, 0, 1), NOT);
        like.mend(2, 0, 99);
        due(17, "now the longer one", like.richest(0, 0, 0), 0);
        due(17, "now the longer one", like.richest(0, 0, 1), 1);
        CutFromOthers ten = with(31, 15, 7, 3, 1, 1023, 32767, 1048575, WHOLE - 1, WHOLE ^ 1 << 4 ^ 1);
        ten.block(WHOLE);
        law(ten, "n*n");
        due(17, "ten years", ten.richest(0, 99, -1), 285);
        due(17, "the tenth", ten.richest(0, 99, 9), 4);
        due(17, "no eleventh", ten.richest(0, 99, 10), NOT);
        law(ten, "n=9");
        due(17, "but one of ten brings", ten.richest(0, 0, -1), 1);
        due(17, "all ten", ten.richest(0, 0, 0), 8);
        law(x, "0");
        due(17, "nothing is brought", x.richest(0, 0, -1), 0);
        due(17, "the shortest is none", x.richest(0, 0, 0), NOT);
        CutFromOthers cutAlready = with(ONE, TWO, PLUS);
        cutAlready.block(WHOLE);
        cutAlready.cut(2);
        law(cutAlready, "n+1");
        due(17, "n begins with the row", cutAlready.richest(0, 0, -1), 3);
    }

    private static void with() {
        CutFromOthers x = with(ONE, TWO, CORNER, THREE, PLUS, 16777216);
        x.block(WHOLE);
        x.block(CORNER);
        due(18, "plus and one", x.with(0, 40), 4);
        due(18, "either way", x.with(0, 4), 4);
        due(18, "plus and corner", x.with(0, 42), 4);
        due(18, "corner and bar", x.with(0, 23), NOT);
        due(18, "two like ones", x.with(0, 5), NOT);
        due(18, "one and two of a corner", x.with(1, 1), 2);
        due(18, "as many cells as the block", x.with(1, 20), NOT);
        CutFromOthers bars = with(ONE, TWO, THREE, FOUR, 31, 34);
        bars.block(WHOLE);
        due(18, "no bar is with a slant", bars.with(0, 50), 2);
        due(18, "bars", bars.with(0, 42), 5);
        due(18, "a slant out of no bar", bars.with(0, 52), NOT);
        due(18, "one and the same", x.with(0, 11), BAD);
        due(18, "no such", x.with(0, 60), BAD);
        due(18, "no such", x.with(0, 6), BAD);
        due(18, "below 0", x.with(0, -1), BAD);
        due(18, "no such block", x.with(2, 1), BAD);
        due(18, "no such block", x.with(-1, 1), BAD);
    }

    private static void spare() {
        CutFromOthers x = new CutFromOthers();
        x.block(PLUS);
        due(19, "no figures", x.spare(0, 0), NOT);
        due(19, "no figures", x.spare(0, 1), NOT);
        x.figure(CORNER);
        x.figure(THREE);
        x.figure(TWO);
        x.figure(ONE);
        due(19, "two, not corner or bar", x.spare(0, 0), 2);
        due(19, "how long then", x.spare(0, 1), 2);
        CutFromOthers first = with(ONE, THREE, CORNER, FOUR);
        first.block(WHOLE);
        due(19, "one", first.spare(0, 0), 0);
        due(19, "a bar out of a bar", first.spare(0, 1), 2);
        CutFromOthers second = with(THREE, ONE, CORNER);
        second.block(WHOLE);
        due(19, "the second", second.spare(0, 0), 1);
        x.figure(16777216);
        x.figure(33);
        due(19, "none is missed: the least", x.spare(0, 0), 0);
        due(19, "how long then", x.spare(0, 1), 3);
        due(19, "what 2", x.spare(0, 2), BAD);
        due(19, "what -1", x.spare(0, -1), BAD);
        due(19, "no such block", x.spare(1, 0), BAD);
        due(19, "BAD is named first", new CutFromOthers().spare(0, 0), BAD);
    }

    private static void when() {
        CutFromOthers x = with(ONE);
        due(20, "all alike: the least", x.when(0, 0), 0);
        due(20, "that", x.when(0, 1), 100);
        x.mend(0, 1, 1);
        x.mend(0, 2, 99);
        due(20, "its year", x.when(0, 0), 99);
        due(20, "that", x.when(0, 1), 100);
        law(x, "n?9999;(a+1)/50");
        due(20, "cut first; of like years the least", x.when(0, 0), 0);
        due(20, "that", x.when(0, 1), 2);
        law(x, "a<60?5;0");
        due(20, "the first of many", x.when(0, 0), 40);
        law(x, "0");
        due(20, "nothing", x.when(0, 0), 0);
        due(20, "nothing", x.when(0, 1), 0);
        due(20, "what 2", x.when(0, 2), BAD);
        due(20, "what -1", x.when(0, -1), BAD);
        due(20, "no such", x.when(1, 0), BAD);
    }

    private static void smallest() {
        CutFromOthers x = with(THREE, CORNER, 16777216, 31, 1 << 20 | 1 << 15 | 1 << 10 | 1 << 5 | 1, PLUS);
        due(21, "bar and corner", x.smallest(1, 0), 4);
        due(21, "the least such", x.smallest(1, 1), 39);
        due(21, "either way", x.smallest(10, 1), 39);
        due(21, "one is in the other", x.smallest(20, 0), 3);
        due(21, "that", x.smallest(20, 1), 7);
        due(21, "like ones", x.smallest(34, 0), 5);
        due(21, "like ones lie on each other", x.smallest(34, 1), 31);
        due(21, "a long bar and a plus", x.smallest(35, 0), 7);
        due(21, "that", x.smallest(35, 1), 2 | 31 << 5 | 2 << 10);
        CutFromOthers turns = with(66 | 1 << 12, 34, 2 | 3 << 5 | 1 << 10, WHOLE, 1057, CORNER);
        due(21, "a zigzag, and what turns the other way", turns.smallest(20, 0), 5);
        due(21, "a zigzag has a slant", turns.smallest(21, 0), 4);
        due(21, "lying it is less than upright", turns.smallest(21, 1), 3 | 6 << 5);
        due(21, "the whole square", turns.smallest(31, 0), 25);
        due(21, "that", turns.smallest(13, 1), WHOLE);
        due(21, "an upright bar and a corner", turns.smallest(45, 1), 39);
        due(21, "what 2", x.smallest(1, 2), BAD);
        due(21, "what -1", x.smallest(1, -1), BAD);
        due(21, "one and the same", x.smallest(11, 0), BAD);
        due(21, "no such", x.smallest(6, 0), BAD);
        due(21, "no such", x.smallest(60, 0), BAD);
        due(21, "below 0", x.smallest(-1, 0), BAD);
    }

    private static void leave() {
        CutFromOthers x = with(ONE, THREE, TEE, FOUR, 16777216);
        x.block(ONE);
        x.block(WHOLE);
        due(22, "none can be cut", x.leave(0, 0), NOT);
        due(22, "none can be cut", x.leave(0, 1), NOT);
        due(22, "of like ones the least", x.leave(1, 0), 2);
        due(22, "a bar and two of one cell", x.leave(1, 1), 3);
        x.figure(CORNER);
        x.figure(PLUS);
        due(22, "most behind a plus", x.leave(1, 0), 6);
        due(22, "each once", x.leave(1, 1), 5);
        CutFromOthers zero = with(THREE, ONE);
        zero.block(WHOLE);
        due(22, "the first figure", zero.leave(0, 0), 0);
        due(22, "one behind it", zero.leave(0, 1), 1);
        due(22, "what 2", x.leave(1, 2), BAD);
        due(22, "what -1", x.leave(1, -1), BAD);
        due(22, "no such block", x.leave(2, 0), BAD);
    }

    private static void byTurns() {
        CutFromOthers x = with(THREE, CORNER, TWO, 33 << 7, FOUR);
        x.block(TWO);
        x.block(WHOLE);
        x.block(CORNER);
        due(23, "cannot", x.byTurns(0, 0), 0);
        due(23, "by none", x.byTurns(0, 1), NOT);
        due(23, "no cut", x.byTurns(0, 2), 0);
        due(23, "wins", x.byTurns(1, 0), 1);
        due(23, "the first by which it does", x.byTurns(1, 1), 2);
        due(23, "at once", x.byTurns(1, 2), 1);
        due(23, "of a corner", x.byTurns(2, 1), 2);
        x.figure(ONE);
        due(23, "a smaller one came", x.byTurns(1, 1), 5);
        due(23, "out of two, too", x.byTurns(0, 0), 1);
        CutFromOthers zero = with(ONE, TWO);
        zero.block(THREE);
        due(23, "the first figure", zero.byTurns(0, 1), 0);
        due(23, "at once", zero.byTurns(0, 2), 1);
        due(23, "what 3", x.byTurns(1, 3), BAD);
        due(23, "what -1", x.byTurns(1, -1), BAD);
        due(23, "no such block", x.byTurns(3, 0), BAD);
        due(23, "no such block", x.byTurns(-1, 0), BAD);
    }

    private static void egg() {
        CutFromOthers x = with(ONE, TWO, CORNER, THREE, PLUS);
        due(24, "still in a bar", x.egg(THREE << 20, 0), 3);
        due(24, "a bar is a part of", x.egg(1057 << 4, 1), 24);
        due(24, "cells", x.egg(THREE << 20, 2), 3);
        due(24, "still in all", x.egg(WHOLE, 0), 31);
        due(24, "all is no part", x.egg(WHOLE, 1), 0);
        due(24, "all", x.egg(WHOLE, 2), 25);
        due(24, "one cell is a part of all", x.egg(1 << 13, 1), 31);
        due(24, "nothing is in it", x.egg(1 << 13, 0), 0);
        due(24, "empty", x.egg(0, 0), BAD);
        due(24, "beyond", x.egg(WHOLE + 1, 2), BAD);
        due(24, "below 0", x.egg(-1, 2), BAD);
        due(24, "what 3", x.egg(1, 3), BAD);
        due(24, "what -1", x.egg(1, -1), BAD);
    }

    private static CutFromOthers toldOf() {
        CutFromOthers x = with(ONE, TWO, CORNER, THREE, PLUS);
        x.block(PLUS);
        x.block(WHOLE);
        return x;
    }

    private static void refusedTold(int promise, String call, int noShelf, int noBlock) {
        due(promise, call + " no such shelf", noShelf, BAD);
        due(promise, call + " no such block", noBlock, BAD);
    }

    private static void judge() {
        CutFromOthers x = toldOf();
        due(25, "nothing there", x.judge(0, 0), NOTHING);
        refusedTold(25, "judge", x.judge(6, 0), x.judge(0, 2));
        due(25, "no such shelf", x.judge(-1, 0), BAD);
        for (int sort = 1; sort < 5; sort++) {
            x.row(0, sort, 1);
            due(25, "sort " + sort, x.judge(0, 0), OTHER);
        }
        x.body(0);
        x.keep(0, 0);
        due(25, "a stone", x.judge(0, 0), OTHER);
        x.row(0, 0, 0);
        due(25, "none told", x.judge(0, 0), NOT);
        tell(x, 0, 0, 2, 1, 0);
        due(25, "all is so", x.judge(0, 0), NOT);
        tell(x, 0, 0, 4, 2);
        due(25, "a plus is no part of itself", x.judge(0, 0), 0);
        due(25, "of the whole it is", x.judge(0, 1), NOT);
        tell(x, 0, 0, 2, 3);
        due(25, "no bar out of a corner", x.judge(0, 1), 1);
        tell(x, 0, 0, -1, -1, -1, -1);
        due(25, "no fourth out of a plus", x.judge(0, 0), 3);
        due(25, "out of the whole", x.judge(0, 1), NOT);
        tell(x, 0, 0, -1, 3, 0);
        due(25, "a plus ahead of the bar", x.judge(0, 1), NOT);
        due(25, "nothing ahead of the bar", x.judge(0, 0), 1);
        tell(x, 0, 0, -1, -1, 1, 5, 9);
        due(25, "a figure that is none", x.judge(0, 1), 3);
        tell(x, 0, 0, -2);
        due(25, "a figure that is none", x.judge(0, 1), 0);
        tell(x, 0, 0, 255, 256);
        due(25, "bytes: unknown, then 0", x.judge(0, 1), NOT);
    }

    private static void filled() {
        CutFromOthers x = toldOf();
        due(26, "nothing there", x.filled(0, 0, 0), NOTHING);
        refusedTold(26, "filled", x.filled(6, 0, 0), x.filled(0, 2, 0));
        x.row(0, 2, 1);
        due(26, "ints", x.filled(0, 0, 1), OTHER);
        due(26, "what 2", x.filled(0, 0, 2), BAD);
        due(26, "what -1", x.filled(0, 0, -1), BAD);
        x.row(0, 0, 0);
        due(26, "none told", x.filled(0, 0, 0), 1);
        due(26, "none unknown", x.filled(0, 0, 1), NOT);
        tell(x, 0, 0, 2, 1, 0);
        due(26, "all known", x.filled(0, 0, 0), 1);
        due(26, "none unknown", x.filled(0, 0, 1), NOT);
        tell(x, 0, 0, -1);
        due(26, "four", x.filled(0, 0, 0), 4);
        due(26, "the least", x.filled(0, 0, 1), 0);
        due(26, "five", x.filled(0, 1, 0), 5);
        tell(x, 0, 0, -1, -1);
        due(26, "one below another", x.filled(0, 0, 0), 5);
        due(26, "two, then one", x.filled(0, 0, 1), 1);
        tell(x, 0, 0, -1, 1, -1);
        due(26, "corner or bar", x.filled(0, 0, 0), 2);
        due(26, "or plus", x.filled(0, 1, 0), 3);
        due(26, "corner", x.filled(0, 0, 1), 2);
        tell(x, 0, 0, 3, -1, 0);
        due(26, "not the first place", x.filled(0, 0, 1), 1);
        tell(x, 0, 0, -1, 0, 1);
        due(26, "not so", x.filled(0, 0, 0), 0);
        due(26, "not so", x.filled(0, 0, 1), NOT);
        tell(x, 0, 0, -1, 7);
        due(26, "a figure that is none", x.filled(0, 1, 0), 0);
        CutFromOthers bars = with(31, 15, 7, 3, 1, 1023, 32767, 1048575, WHOLE - 1, WHOLE ^ 1 << 4 ^ 1);
        bars.block(WHOLE);
        tell(bars, 0, 0, -1, -1, -1, -1, -1);
        due(26, "five of ten", bars.filled(0, 0, 0), 252);
        tell(bars, 0, 0, -1, -1, -1, -1, -1, -1, -1, -1, -1, -1);
        due(26, "ten of ten", bars.filled(0, 0, 0), 1);
        due(26, "its first", bars.filled(0, 0, 1), 8);
        bars.row(1, 0, 60);
        for (int i = 0; i < 60; i++) {
            bars.put(1, i, -1);
        }
        due(26, "sixty", bars.filled(1, 0, 0), 0);
    }

    private static void last() {
        CutFromOthers x = toldOf();
        due(27, "nothing there", x.last(0, 0), NOTHING);
        refusedTold(27, "last", x.last(6, 0), x.last(0, 2));
        x.row(0, 1, 1);
        due(27, "shorts", x.last(0, 0), OTHER);
        x.row(0, 0, 0);
        due(27, "none told", x.last(0, 0), 0);
        tell(x, 0, 0, -1);
        due(27, "the first out of a plus", x.last(0, 0), 15);
        tell(x, 0, 0, -1, -1);
        due(27, "the second", x.last(0, 0), 3);
        tell(x, 0, 0, -1, 1);
        due(27, "known", x.last(0, 0), 2);
        tell(x, 0, 0, 1, -1);
        due(27, "behind a known one", x.last(0, 1), 1);
        tell(x, 0, 0, 0, -1);
        due(27, "not so", x.last(0, 1), 0);
    }

    private static void drawn() {
        CutFromOthers x = with(ONE, TWO, CORNER, THREE, PLUS);
        x.block(WHOLE);
        x.block(ONE);
        int[] cutsAndEnds = drawnByHand(12345, 7);
        due(28, "cuts", x.drawn(0, 12345, 7, -1), cutsAndEnds[0]);
        due(28, "end with one", x.drawn(0, 12345, 7, 0), 7);
        due(28, "end with two", x.drawn(0, 12345, 7, 1), 0);
        due(28, "another seed", x.drawn(0, -1, 50, -1), drawnByHand(-1, 50)[0]);
        due(28, "none can", x.drawn(1, 5, 50, -1), 0);
        due(28, "ends with none", x.drawn(1, 5, 50, 0), 0);
        due(28, "n 0", x.drawn(0, 5, 0, -1), BAD);
        due(28, "n 51", x.drawn(0, 5, 51, -1), BAD);
        due(28, "no such figure", x.drawn(0, 5, 1, 5), BAD);
        due(28, "figure -2", x.drawn(0, 5, 1, -2), BAD);
        due(28, "no such block", x.drawn(2, 5, 1, -1), BAD);
        CutFromOthers ends = with(TWO, 33, 65);
        ends.block(WHOLE);
        int sum = ends.drawn(0, 9, 50, 0) + ends.drawn(0, 9, 50, 1) + ends.drawn(0, 9, 50, 2);
        due(28, "each ends with one of them", sum, 50);
        int z = 9 * 1103515245 + 12345;
        due(28, "the first draw", ends.drawn(0, 9, 1, (z >>> 8) % 3), 1);
    }

    /** Which are left to cut, by hand: none, {0}, {0, 1}, {0 .. 3}, {0 .. 4}. */
    private static int[] drawnByHand(int seed, int n) {
        int[] out = {0, 1, 2, 2, 4};
        int z = seed;
        int cuts = 0;
        for (int i = 0; i < n; i++) {
            int can = 5;
            while (can > 0) {
                z = z * 1103515245 + 12345;
                can = out[(z >>> 8) % can];
                cuts++;
            }
        }
        return new int[] {cuts};
    }

    private static void cut() {
        CutFromOthers x = with(THREE, CORNER, ONE);
        x.block(PLUS << 2);
        law(x, "w+n*10+a");
        x.mend(1, 2, 9);
        due(29, "a corner, nine years early", x.cut(1), 109);
        due(29, "by the first way: (3, 1), (4, 1), (3, 2)", x.of(0, 4), 1 << 8 | 1 << 9 | 1 << 13);
        due(29, "cut of it", x.of(0, 5), 1);
        due(29, "a bar can't be", x.cut(0), STATE);
        due(29, "as many cells", x.cut(1), STATE);
        x.pass(4);
        due(29, "n by the cuts of that block", x.cut(2), 114);
        due(29, "one cell", Integer.bitCount(x.of(0, 4)), 1);
        due(29, "nothing more", x.cut(2), STATE);
        due(29, "no such figure", x.cut(3), BAD);
        due(29, "no such block", x.cut(10), BAD);
        due(29, "below 0", x.cut(-1), BAD);
        due(29, "cut twice", x.of(0, 5), 2);
        CutFromOthers turned = with(CORNER);
        turned.block(1 << 18 | 3 << 22 | 1 << 4);
        turned.cut(0);
        CutFromOthers first = with(ONE);
        first.block(PLUS);
        first.cut(0);
        due(29, "by the first way", first.of(0, 4), 2);
        first.block(CORNER << 12);
        first.cut(10);
        due(29, "by the first way", first.of(1, 4), 1 << 12);
        first.block(1 << 24 | 1 << 20);
        first.cut(20);
        due(29, "by the first way", first.of(2, 4), 1 << 20);
        first.block(3);
        first.cut(30);
        due(29, "at the first place", first.of(3, 4), 1);
        due(29, "turned twice, at its place", turned.of(0, 4), 1 << 18 | 3 << 22);
    }

    private static void pass() {
        CutFromOthers x = new CutFromOthers();
        due(30, "0", x.pass(0), BAD);
        due(30, "100", x.pass(100), BAD);
        due(30, "below 0", x.pass(-1), BAD);
        due(30, "98", x.pass(98), 98);
        due(30, "2 more", x.pass(2), STATE);
        due(30, "now", x.led(3), 98);
        due(30, "1 more", x.pass(1), 99);
        due(30, "1 more", x.pass(1), STATE);
        due(30, "BAD is named first", x.pass(0), BAD);
        due(30, "99 at once", new CutFromOthers().pass(99), 99);
    }

    private static void led() {
        CutFromOthers x = with(THREE, ONE);
        x.block(WHOLE);
        x.block(FOUR);
        x.mend(0, 0, 7);
        x.cut(0);
        x.cut(10);
        x.cut(0);
        x.cut(11);
        x.pass(3);
        due(31, "cuts", x.led(0), 3);
        due(31, "lost", x.led(1), 22 + 1 + 2);
        due(31, "brought", x.led(2), 114);
        due(31, "now", x.led(3), 3);
        due(31, "4", x.led(4), BAD);
        due(31, "-1", x.led(-1), BAD);
    }

    private static void imageAndBack() {
        CutFromOthers x = with(THREE, TWO, ONE);
        x.block(WHOLE);
        due(33, "there is none", x.back(), STATE);
        x.cut(0);
        x.pass(5);
        due(32, "cuts", x.image(), 1);
        int left = x.of(0, 4);
        x.cut(1);
        x.block(FOUR);
        x.cut(12);
        x.pass(6);
        x.mend(0, 0, 5);
        due(33, "cuts", x.back(), 1);
        due(33, "left", x.of(0, 4), left);
        due(33, "cut of it", x.of(0, 5), 1);
        due(33, "now", x.of(0, 6), 5);
        due(33, "lost", x.led(1), 22);
        due(33, "brought", x.led(2), 100);
        due(33, "a block that came since", x.of(1, 4), 1);
        due(33, "cut of it", x.of(1, 5), 1);
        due(33, "it is still there", x.count(1), 2);
        due(33, "figures are no part of it", x.of(0, 0), 5);
        x.cut(1);
        due(33, "once more", x.back(), 1);
        due(33, "left once more", x.of(0, 4), left);
        x.cut(2);
        due(32, "another image", x.image(), 2);
        x.pass(1);
        due(33, "the latest counts", x.back(), 2);
        due(33, "left", Integer.bitCount(x.of(0, 4)), 1);
    }

    private static void undoAndRedo() {
        CutFromOthers x = with(ONE, TWO);
        x.block(WHOLE);
        due(34, "none", x.undo(), STATE);
        due(35, "none", x.redo(), STATE);
        x.mend(0, 0, 1);
        x.mend(1, 1, 2);
        x.mend(0, 2, 3);
        x.cut(1);
        x.pass(1);
        due(34, "two may still be", x.undo(), 2);
        due(34, "the year", x.of(0, 2), 0);
        due(34, "one may still be", x.undo(), 1);
        due(34, "fades", x.of(1, 1), 0);
        due(34, "deeds are none", x.of(0, 5), 1);
        due(35, "one may still be", x.redo(), 1);
        due(35, "fades", x.of(1, 1), 2);
        x.mend(0, 0, 1);
        due(35, "the same number is none", x.redo(), 0);
        due(35, "year", x.of(0, 2), 3);
        x.undo();
        x.mend(0, 0, 9);
        due(35, "another came behind", x.redo(), STATE);
        due(34, "that one goes", x.undo(), 2);
        due(34, "worth", x.of(0, 0), 1);
        x.undo();
        x.undo();
        due(34, "worth", x.of(0, 0), 100);
        due(34, "no more", x.undo(), STATE);
        due(35, "two may still be", x.redo(), 2);
        for (int i = 0; i < 45; i++) {
            x.mend(1, 0, 200 + i);
        }
        due(34, "40 at most", x.count(3), 40);
        for (int i = 39; i >= 0; i--) {
            due(34, "undone to " + i, x.undo(), i);
        }
        due(34, "the five oldest are gone", x.of(1, 0), 204);
        due(34, "no more", x.undo(), STATE);
        for (int i = 39; i >= 0; i--) {
            due(35, "done again to " + i, x.redo(), i);
        }
        due(35, "the latest", x.of(1, 0), 244);
        due(35, "no more", x.redo(), STATE);
        CutFromOthers mixed = with(ONE, TWO, THREE);
        for (int i = 0; i < 44; i++) {
            mixed.mend(i % 3, i % 2, i % 9 + 1);
        }
        int undone = 0;
        while (undone < 100 && mixed.undo() > 0) {
            undone++;
        }
        due(34, "40 of 44", undone, 39);
        int[] was = {1, 2, 3, 4};
        due(34, "of 0, worth", mixed.of(0, 0), was[0]);
        due(34, "of 1, fades", mixed.of(1, 1), was[1]);
        due(34, "of 2, worth", mixed.of(2, 0), was[2]);
        due(34, "of 0, fades", mixed.of(0, 1), was[3]);
        due(34, "of 1, worth", mixed.of(1, 0), 100);
        due(34, "of 2, fades", mixed.of(2, 1), 0);
        while (undone > -100 && mixed.redo() > 0) {
            undone--;
        }
        due(35, "all 40", undone, 0);
        due(35, "of 1, fades, the last", mixed.of(1, 1), 8);
        due(35, "of 0, worth, the last but one", mixed.of(0, 0), 7);
        due(35, "of 2, fades, ahead of it", mixed.of(2, 1), 6);
        due(35, "of 1, worth, ahead of it", mixed.of(1, 0), 5);
    }

    private static void body() {
        CutFromOthers x = new CutFromOthers();
        due(36, "-1", x.body(-1), BAD);
        due(36, "8", x.body(8), BAD);
        for (int i = 0; i < 50; i++) {
            due(36, "body " + i, x.body(i % 8), i);
        }
        due(36, "the 51st", x.body(0), FULL);
        due(36, "BAD is named first", x.body(8), BAD);
        due(36, "50", x.count(4), 50);
    }

    private static void acts(CutFromOthers x, int stone, int act, int x0, int want, int... trace) {
        String call = "act(" + stone + ", " + act + ", " + x0 + ")";
        due(37, call, x.act(stone, act, x0), want);
        due(45, "ran in " + call, x.count(5), trace.length);
        for (int i = 0; i < trace.length; i++) {
            due(38, "trace " + i + " of " + call, x.trace(i), trace[i]);
        }
        due(38, "no more of " + call, x.trace(trace.length), BAD);
    }

    private static void actAndTrace() {
        CutFromOthers x = new CutFromOthers();
        due(38, "no act yet", x.trace(0), BAD);
        for (int kind = 0; kind < 8; kind++) {
            x.body(kind);
        }
        acts(x, 0, 0, 7, 7, 1);
        acts(x, 0, 1, 7, 14, 10, 1);
        acts(x, 0, 2, 7, 7, 11);
        acts(x, 0, 3, 7, 13, 2, 10, 1, 11);
        acts(x, 1, 0, 7, 11, 20, 1);
        acts(x, 1, 1, 7, 22, 10, 20, 1);
        acts(x, 2, 1, 7, -18, 30, 10, 1);
        acts(x, 3, 2, 7, 12, 40, 11);
        acts(x, 3, 1, 7, -22, 41, 30, 10, 1);
        acts(x, 4, 2, 7, 3 - 9, 50, 11, 20, 1);
        acts(x, 5, 3, 7, (-26 - 12) ^ 5, 60, 2, 41, 30, 10, 1, 40, 11);
        acts(x, 6, 0, 7, 26, 70, 1);
        acts(x, 6, 1, 7, 52, 10, 70, 1);
        acts(x, 7, 1, 7, 34 + 5 - 12, 80, 10, 20, 1, 50, 11, 20, 1);
        acts(x, 7, 3, 7, 27 - (6 - 12) - 1, 81, 2, 80, 10, 20, 1, 50, 11, 20, 1, 50, 11, 20, 1);
        acts(x, 6, 0, Integer.MAX_VALUE, 10, 70, 1);
        acts(x, 6, 2, 7, 1, 11);
        acts(x, 6, 3, 7, 52 - 7, 2, 10, 70, 1, 11);
        acts(x, 1, 2, 7, 6, 11);
        acts(x, 1, 3, 7, 22, 2, 10, 20, 1, 11);
        acts(x, 2, 0, 7, 9, 1);
        acts(x, 2, 2, 7, 5, 11);
        acts(x, 2, 3, 7, -21, 2, 30, 10, 1, 11);
        acts(x, 3, 0, 7, 10, 1);
        acts(x, 3, 3, 7, -22 - 6, 2, 41, 30, 10, 1, 40, 11);
        acts(x, 4, 0, 7, 14, 20, 1);
        acts(x, 4, 1, 7, 28, 10, 20, 1);
        acts(x, 4, 3, 7, 28 - (5 - 9), 2, 10, 20, 1, 50, 11, 20, 1);
        acts(x, 5, 0, 7, 12, 1);
        acts(x, 5, 1, 7, -26, 41, 30, 10, 1);
        acts(x, 5, 2, 7, 6, 40, 11);
        acts(x, 7, 0, 7, 17, 20, 1);
        acts(x, 7, 2, 7, -12, 50, 11, 20, 1);
        due(38, "-1", x.trace(-1), BAD);
        due(37, "no such stone", x.act(8, 0, 1), 0);
        due(38, "no trace then", x.trace(0), BAD);
        due(45, "none ran", x.count(5), 0);
        x.act(0, 0, 1);
        due(37, "no such act", x.act(1, 4, 1), 0);
        due(38, "no trace then", x.trace(0), BAD);
        x.act(0, 0, 1);
        due(37, "no such act", x.act(1, -1, 1), 0);
        due(37, "no such stone", x.act(-1, 0, 1), 0);
        due(45, "none ran", x.count(5), 0);
    }

    private static void keep() {
        CutFromOthers x = new CutFromOthers();
        due(39, "no such body", x.keep(0, 0), BAD);
        x.body(4);
        due(39, "a stone", x.keep(5, 0), 1);
        due(39, "it is there", x.taken(5, 1), 4);
        due(39, "no such body", x.keep(5, 1), BAD);
        due(39, "-2", x.keep(5, -2), BAD);
        due(39, "no such shelf", x.keep(6, 0), BAD);
        due(39, "no such shelf", x.keep(-1, -1), BAD);
        due(39, "it is still there", x.taken(5, 4), 4);
        due(39, "nothing", x.keep(5, -1), 1);
        due(39, "nothing is there", x.taken(5, 4), NOTHING);
        x.row(5, 0, 3);
        due(39, "nothing instead of a row", x.keep(5, -1), 1);
        due(39, "nothing is there", x.put(5, 0, 1), NOTHING);
    }

    private static void row() {
        CutFromOthers x = new CutFromOthers();
        due(40, "bytes", x.row(0, 0, 60), 1);
        due(40, "its last", x.element(0, 59), 0);
        due(40, "beyond", x.put(0, 60, 1), NO_PLACE);
        x.put(0, 0, 5);
        due(40, "61", x.row(0, 0, 61), BAD);
        due(40, "sort 5", x.row(0, 5, 1), BAD);
        due(40, "sort -1", x.row(0, -1, 1), BAD);
        due(40, "no such shelf", x.row(6, 0, 1), BAD);
        due(40, "no such shelf", x.row(-1, 0, 1), BAD);
        due(40, "below 0", x.row(0, 0, -1), BELOW_ZERO);
        due(40, "BAD is named first", x.row(0, 5, -1), BAD);
        due(40, "BAD is named first", x.row(6, 0, -1), BAD);
        due(40, "it stays", x.element(0, 0), 5);
        due(40, "none", x.row(0, 3, 0), 1);
        due(40, "no element", x.put(0, 0, 1), NO_PLACE);
        x.row(0, 0, 60);
        due(40, "a new row is 0", x.element(0, 0), 0);
    }

    private static void putAndElement() {
        CutFromOthers x = new CutFromOthers();
        long[] put = {0x1234567890ABCDEFL, -1L, 1L << 40, 128L, Long.MIN_VALUE + 1};
        long[][] kept = {
            {(byte) 0xEF, -1, 0, -128, 1},
            {(short) 0xCDEF, -1, 0, 128, 1},
            {0x90ABCDEF, -1, 0, 128, 1},
            {0x1234567890ABCDEFL, -1, 1L << 40, 128, Long.MIN_VALUE + 1},
            {1, 1, 1, 1, 1}
        };
        for (int sort = 0; sort < 5; sort++) {
            x.row(sort, sort, 5);
            for (int i = 0; i < 5; i++) {
                due(41, "sort " + sort, x.put(sort, i, put[i]), 1);
                due(42, "sort " + sort + ", " + put[i], x.element(sort, i), kept[sort][i]);
            }
            due(41, "place 5", x.put(sort, 5, 1), NO_PLACE);
            due(41, "place -1", x.put(sort, -1, 1), NO_PLACE);
            due(42, "place 5", x.element(sort, 5), Long.MIN_VALUE);
            due(42, "place -1", x.element(sort, -1), Long.MIN_VALUE);
            due(41, "0", x.put(sort, 2, 0), 1);
            due(42, "0", x.element(sort, 2), 0);
        }
        due(41, "nothing there", x.put(5, -1, 1), NOTHING);
        due(42, "nothing there", x.element(5, 0), Long.MIN_VALUE);
        x.body(0);
        x.keep(5, 0);
        due(41, "a stone", x.put(5, -1, 1), OTHER);
        due(42, "a stone", x.element(5, 0), Long.MIN_VALUE);
        due(41, "no such shelf", x.put(6, 0, 1), BAD);
        due(41, "no such shelf", x.put(-1, 0, 1), BAD);
        due(42, "no such shelf", x.element(6, 0), Long.MIN_VALUE);
        due(42, "no such shelf", x.element(-1, 0), Long.MIN_VALUE);
    }

    private static long digits(CutFromOthers x, int shelf, int n) {
        long all = 0;
        for (int i = 0; i < n; i++) {
            all = 10 * all + x.element(shelf, i);
        }
        return all;
    }

    private static void shift() {
        CutFromOthers x = new CutFromOthers();
        tell(x, 0, 2, 1, 2, 3, 4, 5);
        tell(x, 1, 2, 6, 7, 8);
        tell(x, 2, 3, 1, 2, 3);
        x.body(0);
        x.keep(3, 0);
        due(43, "to another one", x.shift(0, 3, 1, 1, 2), 2);
        due(43, "there", digits(x, 1, 3), 645);
        due(43, "here", digits(x, 0, 5), 12345);
        due(43, "to the same, behind", x.shift(0, 0, 0, 1, 4), 4);
        due(43, "as they were", digits(x, 0, 5), 11234);
        due(43, "to the same, ahead", x.shift(0, 1, 0, 0, 4), 4);
        due(43, "as they were", digits(x, 0, 5), 12344);
        due(43, "none, at the end", x.shift(0, 5, 1, 3, 0), 0);
        due(43, "beyond", x.shift(0, 4, 1, 0, 2), NO_PLACE);
        due(43, "beyond there", x.shift(0, 0, 1, 2, 2), NO_PLACE);
        due(43, "none, behind the end", x.shift(0, 6, 1, 0, 0), NO_PLACE);
        due(43, "from -1", x.shift(0, -1, 1, 0, 1), NO_PLACE);
        due(43, "to -1", x.shift(0, 0, 1, -1, 1), NO_PLACE);
        due(43, "as many as -1", x.shift(0, 1, 1, 1, -1), NO_PLACE);
        due(43, "far too many", x.shift(0, 1, 1, 1, Integer.MAX_VALUE), NO_PLACE);
        due(43, "from far behind", x.shift(0, Integer.MAX_VALUE, 1, 0, 1), NO_PLACE);
        due(43, "unlike sorts", x.shift(0, 0, 2, 0, 9), OTHER);
        due(43, "a stone", x.shift(0, 0, 3, 0, 1), OTHER);
        due(43, "a stone", x.shift(3, 0, 0, 0, 1), OTHER);
        due(43, "two stones", x.shift(3, 0, 3, 0, 1), OTHER);
        due(43, "nothing", x.shift(4, 0, 3, 0, 1), NOTHING);
        due(43, "nothing", x.shift(3, 0, 4, 0, 1), NOTHING);
        due(43, "nothing, either", x.shift(4, 0, 4, 0, 1), NOTHING);
        due(43, "no such shelf", x.shift(6, 0, 4, 0, 1), BAD);
        due(43, "no such shelf", x.shift(4, 0, -1, 0, 1), BAD);
        due(43, "all is as it was", digits(x, 0, 5) * 1000 + digits(x, 1, 3), 12344645);
    }

    private static void taken() {
        CutFromOthers x = new CutFromOthers();
        int[][] over = {{0}, {0, 1}, {0, 2}, {0, 2, 3}, {0, 1, 4}, {0, 2, 3, 5}, {0, 6}, {0, 1, 4, 7}};
        due(44, "nothing", x.taken(0, 0), NOTHING);
        for (int kind = 0; kind < 8; kind++) {
            x.keep(0, x.body(kind));
            int set = 0;
            for (int k : over[kind]) {
                set |= 1 << k;
            }
            for (int k = 0; k < 8; k++) {
                due(44, "kind " + kind + " for " + k, x.taken(0, k), (set >> k & 1) == 1 ? kind : OTHER);
            }
        }
        due(44, "8", x.taken(0, 8), BAD);
        due(44, "-1", x.taken(0, -1), BAD);
        due(44, "no such shelf", x.taken(6, 0), BAD);
        due(44, "no such shelf", x.taken(-1, 0), BAD);
        x.row(0, 0, 1);
        due(44, "a row", x.taken(0, 0), OTHER);
    }

    private static void count() {
        CutFromOthers x = with(ONE, TWO);
        x.block(1);
        x.feed('w');
        x.feed('w');
        x.feed('w');
        for (int v = 0; v < 4; v++) {
            x.mend(0, 0, v);
        }
        for (int i = 0; i < 5; i++) {
            x.body(7);
        }
        x.act(0, 3, 0);
        int[] due = {2, 1, 3, 4, 5, 14};
        for (int what = 0; what <= 5; what++) {
            due(45, "count(" + what + ")", x.count(what), due[what]);
        }
        x.undo();
        due(45, "one is undone", x.count(3), 3);
        due(45, "6", x.count(6), BAD);
        due(45, "-1", x.count(-1), BAD);
    }
}
