/** The edges of promises 10 to 15: sizes, turns, WAYS, which FIGURE is in which. */
public final class ShapesEdgesTest extends Sentences {
    // a corner's other turns, each moved as far up and left as it goes
    private static final int CORNER_1 = 67, CORNER_2 = 98, CORNER_3 = 97;
    // two cells, a gap and one in a line: unlike itself when it is turned twice
    private static final int GAP = 11;
    private static final int COLUMN = 1082401;

    public static void main(String[] args) {
        sizes();
        turns();
        turnsOfWide();
        movedWithinSquare();
        noWrap();
        placesOfOneCell();
        wayNumbers();
        waysCountEachByItself();
        fewerCells();
        waysRefused();
        inside();
        insideRefused();
        around();
        common();
        end();
    }

    private static void sizes() {
        sentence("Promise 10: Cells (what 0), WIDE (1), TALL (2) of a FIGURE. BAD");
        int[] shapes = {1, 1 << 24, WHOLE, FIVE, FIVE << 20, COLUMN, COLUMN << 4, 1 | 1 << 24, 1 << 4 | 1 << 20, PLUS << 12};
        int[] sizes = {111, 111, 2555, 551, 551, 515, 515, 255, 255, 533};
        CutFromOthers x = with(shapes);
        for (int f = 0; f < shapes.length; f++) {
            due("sizes of " + shapes[f], 100 * x.size(f, 0) + x.size(f, 1) * 10 + x.size(f, 2), sizes[f]);
        }
        for (int what = 0; what <= 2; what++) {
            int kind = what;
            dueOfAll("what " + what + ", figure", BAD, f -> x.size(f, kind), -1, 10, MIN, MAX);
        }
        dueOfAll("what", BAD, what -> x.size(0, what), -1, 3, MIN, MAX);
        CutFromOthers one = with(ONE);
        dueOfAll("figure of one", BAD, f -> one.size(f, 0), -1, 1, 9);
    }

    private static void turns() {
        sentence("Terms 1: A SHAPE TURNED n (0 .. 3) times: each time x becomes 4 less y, y becomes x. BAD");
        CutFromOthers x = with(CORNER, CORNER << 18, WHOLE, 1 << 24, 1 << 4, 1 << 20, PLUS, PLUS << 12);
        int[][] turned = {
            {CORNER, CORNER_1, CORNER_2, CORNER_3}, {CORNER, CORNER_1, CORNER_2, CORNER_3}, {WHOLE, WHOLE, WHOLE, WHOLE},
            {1, 1, 1, 1}, {1, 1, 1, 1}, {1, 1, 1, 1}, {PLUS, PLUS, PLUS, PLUS}, {PLUS, PLUS, PLUS, PLUS}
        };
        for (int f = 0; f < turned.length; f++) {
            for (int n = 0; n <= 3; n++) {
                due("turned(" + f + ", " + n + ")", x.turned(f, n), turned[f][n]);
            }
        }
        dueOfAll("n", BAD, n -> x.turned(0, n), -1, 4, 5, MIN, MAX);
        dueOfAll("figure", BAD, f -> x.turned(f, 0), -1, 8, 9, 10, MIN, MAX);
        dueOfAll("figure, n 3", BAD, f -> x.turned(f, 3), -1, 8);
    }

    private static void turnsOfWide() {
        sentence("Terms 1: then it is moved as far up and left as it goes");
        CutFromOthers x = with(FIVE << 20, COLUMN << 4, GAP << 21, WHOLE ^ 1, 1 | 1 << 24, 1 << 4 | 1 << 20, 1 << 23 | 1 << 19);
        int upright = 1 | 1 << 5 | 1 << 15;
        int uprightBack = 1 | 1 << 10 | 1 << 15;
        int slantBack = 2 | 1 << 5;
        int[][] turned = {
            {FIVE, COLUMN, FIVE, COLUMN}, {COLUMN, FIVE, COLUMN, FIVE}, {GAP, upright, 13, uprightBack},
            {WHOLE ^ 1, WHOLE ^ 1 << 4, WHOLE ^ 1 << 24, WHOLE ^ 1 << 20},
            {1 | 1 << 24, 1 << 4 | 1 << 20, 1 | 1 << 24, 1 << 4 | 1 << 20},
            {1 << 4 | 1 << 20, 1 | 1 << 24, 1 << 4 | 1 << 20, 1 | 1 << 24},
            {slantBack, SLANT, slantBack, SLANT}
        };
        for (int f = 0; f < turned.length; f++) {
            for (int n = 0; n <= 3; n++) {
                due("turned(" + f + ", " + n + ")", x.turned(f, n), turned[f][n]);
            }
        }
    }

    private static void movedWithinSquare() {
        sentence("Terms 1: FITS by a TURN and a PLACE (dx, dy), moved by dx to the right and dy down (within the square)");
        CutFromOthers x = cutting(new int[] {WHOLE}, ONE, TWO, FOUR, FIVE, COLUMN, WHOLE, PLUS, 1 | 1 << 24, CORNER, FIVE | FIVE << 5);
        int[] ways = {100, 80, 40, 20, 20, 4, 36, 4, 64, 16};
        for (int f = 0; f < ways.length; f++) {
            due("ways(" + f + ", 0) of the square", x.ways(f, 0), ways[f]);
            due("ways(" + f + ", 1) of the square", x.ways(f, 1), 0);
        }
    }

    private static void noWrap() {
        sentence("Terms 1: a cell moved beyond the right side is not the next line's first (within the square)");
        int[] blocks = {1 << 4 | 1 << 5, 1 << 3 | 1 << 4 | 1 << 5, 1 << 20 | 1, 1 << 4 | 1 << 9 | 1, 3 << 23, 1 << 9 | 1 << 10};
        int[] ways = {0, 2, 0, 2, 2, 0};
        int[] first = {NOT, 3, NOT, 104, 43, NOT};
        CutFromOthers x = cutting(blocks, TWO, THREE);
        for (int b = 0; b < blocks.length; b++) {
            due("ways(" + 10 * b + ", 0)", x.ways(10 * b, 0), ways[b]);
            due("ways(" + 10 * b + ", 1)", x.ways(10 * b, 1), first[b]);
            due("ways(" + (10 * b + 1) + ", 0), a longer one", x.ways(10 * b + 1, 0), 0);
        }
    }

    private static void placesOfOneCell() {
        sentence("Terms 1: a WAY is 100 times the TURN, 10 dy and dx");
        for (int bit = 0; bit < 25; bit++) {
            CutFromOthers x = cutting(new int[] {1 << bit}, ONE);
            due("first way to bit " + bit, x.ways(0, 1), 10 * (bit / 5) + bit % 5);
            due("ways to bit " + bit, x.ways(0, 0), 4);
            due("as many cells", x.ways(0, 2), NOT);
        }
    }

    private static void wayNumbers() {
        sentence("Promise 12: WAYS in a BLOCK: the first (1; NOT)");
        int[] blocks = {CORNER, CORNER_1 << 18, CORNER_2 << 18, CORNER_3 << 18, CORNER_3 << 18 | 1, CORNER_1 | CORNER << 18};
        int[] first = {0, 133, 233, 333, 333, 33};
        int[] ways = {1, 1, 1, 1, 1, 2};
        CutFromOthers x = cutting(blocks, CORNER);
        for (int b = 0; b < blocks.length; b++) {
            due("ways(" + 10 * b + ", 1)", x.ways(10 * b, 1), first[b]);
            due("ways(" + 10 * b + ", 0)", x.ways(10 * b, 0), ways[b]);
        }
        int upright = 1 | 1 << 5 | 1 << 15;
        int uprightBack = 1 | 1 << 10 | 1 << 15;
        int[] gaps = {GAP << 21, 13 << 21, upright << 9, uprightBack << 9, GAP << 20 | GAP << 1, uprightBack << 9 | upright};
        int[] firstGap = {41, 241, 114, 314, 1, 100};
        CutFromOthers y = cutting(gaps, GAP);
        for (int b = 0; b < gaps.length; b++) {
            due("ways(" + 10 * b + ", 1) of a gap", y.ways(10 * b, 1), firstGap[b]);
        }
    }

    private static void waysCountEachByItself() {
        sentence("Terms 1: WAYS count each by itself");
        CutFromOthers x = cutting(new int[] {ONE, TWO, THREE, PLUS, WHOLE, CORNER}, ONE, TWO, PLUS, SLANT, WHOLE);
        due("one cell of one", x.ways(0, 0), 4);
        due("one cell of two", x.ways(10, 0), 8);
        due("two of two", x.ways(11, 0), 2);
        due("two of three", x.ways(21, 0), 4);
        due("a plus of a plus", x.ways(32, 0), 4);
        due("a slant of a plus", x.ways(33, 0), 8);
        due("all of all", x.ways(44, 0), 4);
        due("a slant of a corner", x.ways(53, 0), 2);
        due("all of a corner", x.ways(54, 0), 0);
    }

    private static void fewerCells() {
        sentence("Terms 1: It can be CUT OUT of a SHAPE, if it FITS by some WAY and has fewer cells");
        CutFromOthers x = cutting(new int[] {WHOLE, PLUS, THREE, ONE}, WHOLE, WHOLE - 1, PLUS, THREE, ONE, CORNER);
        due("all of all", x.ways(0, 2), NOT);
        due("it fits", x.ways(0, 0), 4);
        due("one cell less", x.ways(1, 2), 1);
        due("most cells lost", x.ways(4, 2), 24);
        due("a plus of a plus", x.ways(12, 2), NOT);
        due("it fits", x.ways(12, 0), 4);
        due("three of a plus", x.ways(13, 2), 2);
        due("a corner of three: as many cells", x.ways(25, 2), NOT);
        due("it does not fit", x.ways(25, 0), 0);
        due("one cell of one", x.ways(34, 2), NOT);
        due("one cell of three", x.ways(24, 2), 2);
        CutFromOthers y = cutting(new int[] {FIVE << 10}, CORNER, TWO << 23, FIVE);
        due("a corner of five in a line", y.ways(0, 2), NOT);
        due("it does not fit", y.ways(0, 1), NOT);
        due("two of five in a line, from elsewhere", y.ways(1, 2), 3);
        due("as many as the line", y.ways(2, 2), NOT);
    }

    private static void waysRefused() {
        sentence("Promise 12: bf: 10 times the BLOCK, and the FIGURE. BAD");
        CutFromOthers x = cutting(new int[] {WHOLE, PLUS}, ONE, TWO, THREE);
        dueOfAll("bf", BAD, bf -> x.ways(bf, 0), -1, -10, -11, 3, 9, 13, 19, 20, 22, 60, 100, MIN, MAX);
        dueOfAll("what", BAD, what -> x.ways(0, what), -1, 3, MIN, MAX);
        due("the last of both", x.ways(12, 0), 4);
        CutFromOthers full = cutting(new int[] {ONE, TWO, THREE, FOUR, FIVE, WHOLE}, 1, 1, 1, 1, 1, 1, 1, 1, 1, WHOLE - 1);
        due("the last of all", full.ways(59, 2), 1);
        dueOfAll("bf of all", BAD, bf -> full.ways(bf, 1), -1, 60, 69);
        due("the first of all", full.ways(0, 0), 4);
    }

    private static void inside() {
        sentence("Promise 13: INSIDE: whether (1, 0) a can be CUT OUT of b; ab: 10 times the one FIGURE and the other");
        CutFromOthers x = with(ONE, TWO, THREE, CORNER, SLANT, PLUS, WHOLE, WHOLE - 1, 1 << 24, WHOLE);
        due("one of two", x.inside(1), 1);
        due("two of one", x.inside(10), 0);
        due("like ones", x.inside(8), 0);
        due("like ones", x.inside(80), 0);
        due("all cells twice", x.inside(69), 0);
        due("all cells twice", x.inside(96), 0);
        due("all less one, of all", x.inside(76), 1);
        due("all of all less one", x.inside(67), 0);
        due("one of the last", x.inside(9), 1);
        due("the last of one", x.inside(90), 0);
        due("as many cells, unlike", x.inside(23), 0);
        due("fewer cells, but it does not fit", x.inside(42), 0);
        due("a slant of a corner", x.inside(43), 1);
    }

    private static void insideRefused() {
        sentence("Promise 13: BAD (one and the same, too)");
        CutFromOthers x = with(ONE, TWO, THREE);
        dueOfAll("ab", BAD, x::inside, 0, 11, 22, 33, 3, 13, 23, 30, 31, 32, 9, 90, 99, 100, 101, 110, -1, -10, -12, MIN, MAX);
        due("the greatest", x.inside(21), 0);
        due("the least", x.inside(1), 1);
        CutFromOthers ten = with(tenInOneRow());
        due("98: the greatest", ten.inside(98), 1);
        due("89", ten.inside(89), 0);
        dueOfAll("ab of ten", BAD, ten::inside, 0, 55, 99, 100, 109);
        dueOfAll("ab of none", BAD, new CutFromOthers()::inside, 0, 1, 10);
    }

    private static void around() {
        sentence("Promise 14: Out of which one can be (what 0), which out of it (1): bits. BAD");
        CutFromOthers x = with(tenInOneRow());
        due("out of which the least", x.around(4, 0), 1023 ^ 1 << 4);
        due("which out of the least", x.around(4, 1), 0);
        due("out of which the greatest", x.around(8, 0), 0);
        due("which out of the greatest", x.around(8, 1), 1023 ^ 1 << 8);
        due("out of which the last", x.around(9, 0), 1 << 8);
        due("which out of the last", x.around(9, 1), 255);
        dueOfAll("what", BAD, what -> x.around(0, what), -1, 2, MIN, MAX);
        for (int what = 0; what <= 1; what++) {
            int kind = what;
            dueOfAll("what " + what + ", figure", BAD, f -> x.around(f, kind), -1, 10, MIN, MAX);
        }
        CutFromOthers two = with(ONE, 1 << 24);
        due("like ones", two.around(0, 0) + two.around(0, 1) + two.around(1, 0) + two.around(1, 1), 0);
        dueOfAll("figure of two", BAD, f -> two.around(f, 0), 2, 9);
        two.figure(TWO);
        due("a greater one came", two.around(0, 0), 4);
        due("which out of it", two.around(2, 1), 3);
    }

    private static void common() {
        sentence("Terms 2: COMMON: which FIGURES (bits) can be CUT OUT of all FIGURES of a set (bits; of none: all). BAD");
        CutFromOthers none = new CutFromOthers();
        due("of none, of no figures", none.common(0), 0);
        dueOfAll("set of no figures", BAD, none::common, 1, 2, 1024, -1, MIN, MAX);
        CutFromOthers x = with(ONE, CORNER, THREE, TWO);
        due("of none: all", x.common(0), 15);
        due("of all", x.common(15), 0);
        due("of one cell", x.common(1), 0);
        due("of corner and three", x.common(6), 9);
        due("of corner, three, two", x.common(14), 1);
        dueOfAll("set", BAD, x::common, -1, -2, 16, 17, 31, 1024, MIN, MAX);
        CutFromOthers ten = with(tenInOneRow());
        due("of none of ten", ten.common(0), 1023);
        due("of all ten", ten.common(1023), 0);
        due("of all but the least", ten.common(1023 ^ 1 << 4), 1 << 4);
        due("of the last", ten.common(512), 255);
        dueOfAll("set of ten", BAD, ten::common, 1024, 1025, 2047, -1, MIN, MAX);
    }
}
