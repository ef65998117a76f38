/** The edges of promises 25 to 28: rows that are TOLD, and cuttings that are DRAWN. */
public final class ToldEdgesTest extends Sentences {
    private static final int[] SQUARE = {WHOLE};

    public static void main(String[] args) {
        refused();
        refusedFilled();
        emptyRow();
        eachByte();
        firstThatCannotBe();
        unknownThatCannotBe();
        longRows();
        filledCounts();
        filledMost();
        filledFirst();
        last();
        lastNotSo();
        drawnOfNone();
        drawnOfOne();
        drawnBySeeds();
        drawnEnds();
        drawnRefused();
        end();
    }

    /** Figures: one, two, a corner, three, a plus. Blocks: a plus, the square, one cell. */
    private static CutFromOthers five() {
        return cutting(new int[] {PLUS, WHOLE, ONE}, ONE, TWO, CORNER, THREE, PLUS);
    }

    private static void dueOfTold(String call, CutFromOthers x, int shelf, int block, int want) {
        due("judge, " + call, x.judge(shelf, block), want);
        due("filled 0, " + call, x.filled(shelf, block, 0), want);
        due("filled 1, " + call, x.filled(shelf, block, 1), want);
        due("last, " + call, x.last(shelf, block), want);
    }

    private static void refused() {
        sentence("Told: a ROW on a SHELF; BAD, -11, -12 (no ROW of bytes)");
        CutFromOthers x = five();
        x.body(0);
        x.keep(1, 0);
        tell(x, 5, 0, 0);
        int[] noNumbers = {-1, 6, MIN, MAX};
        for (int none : noNumbers) {
            dueOfTold("shelf " + none, x, none, 0, BAD);
            dueOfTold("shelf and block " + none, x, none, none, BAD);
            dueOfTold("block " + none, x, 5, none, BAD);
            dueOfTold("nothing there, block " + none, x, 0, none, BAD);
            dueOfTold("a stone, block " + none, x, 1, none, BAD);
        }
        dueOfTold("block 3 of three", x, 5, 3, BAD);
        dueOfTold("nothing there", x, 0, 0, NOTHING);
        dueOfTold("a stone", x, 1, 2, OTHER);
        for (int sort = 1; sort <= 4; sort++) {
            x.row(2, sort, 1);
            dueOfTold("a row of sort " + sort, x, 2, 0, OTHER);
            x.row(2, sort, 0);
            dueOfTold("a row of none of sort " + sort, x, 2, 1, OTHER);
        }
        due("the last shelf, the first block", x.judge(5, 0), NOT);
        due("the last block", x.judge(5, 2), 0);
    }

    private static void refusedFilled() {
        sentence("Promise 26: FILLED: how many (what 0), the first unknown one (1). BAD");
        CutFromOthers x = five();
        tell(x, 0, 0, -1);
        x.row(1, 2, 1);
        dueOfAll("what", BAD, what -> x.filled(0, 0, what), -1, 2, MIN, MAX);
        dueOfAll("what, ints", BAD, what -> x.filled(1, 0, what), -1, 2);
        dueOfAll("what, nothing there", BAD, what -> x.filled(2, 0, what), -1, 2);
        dueOfAll("what, no such block", BAD, what -> x.filled(0, 3, what), -1, 0, 1, 2);
    }

    private static void emptyRow() {
        sentence("Promises 25 to 27: NOT; an empty ROW: one way, none unknown, bits 0");
        CutFromOthers[] both = {five(), cutting(new int[] {ONE, WHOLE, TWO})};
        for (CutFromOthers x : both) {
            x.row(0, 0, 0);
            for (int b = 0; b <= 2; b++) {
                due("judge(0, " + b + ")", x.judge(0, b), NOT);
                due("filled(0, " + b + ", 0)", x.filled(0, b, 0), 1);
                due("filled(0, " + b + ", 1)", x.filled(0, b, 1), NOT);
                due("last(0, " + b + ")", x.last(0, b), 0);
            }
        }
    }

    private static void eachByte() {
        sentence("Terms 3: FIGURES in the order in which they were cut (-1: not known); a FIGURE that is none cannot be");
        for (int v = -128; v <= 127; v++) {
            CutFromOthers x = five();
            CutFromOthers ten = cutting(SQUARE, tenInOneRow());
            tell(x, 0, 0, v);
            due("judge of " + v, x.judge(0, 1), v >= -1 && v <= 4 ? NOT : 0);
            tell(ten, 0, 0, v);
            due("judge of ten, " + v, ten.judge(0, 0), v >= -1 && v <= 9 ? NOT : 0);
        }
        CutFromOthers y = five();
        int[] none = {5, 9, 10, 31, 32, 33, 64, 127, -2, -32, -31, -128};
        for (int v : none) {
            tell(y, 0, 0, v);
            due("filled(0, 1, 0) of " + v, y.filled(0, 1, 0), 0);
            due("last(0, 1) of " + v, y.last(0, 1), 0);
            tell(y, 0, 0, -1, v, -1);
            due("judge behind an unknown one of " + v, y.judge(0, 1), 1);
            due("filled(0, 1, 1) of " + v, y.filled(0, 1, 1), NOT);
        }
        tell(y, 0, 0, 255, 256);
        due("255 is -1, 256 is 0", y.judge(0, 1), NOT);
        due("so it is filled", y.filled(0, 1, 1), 1);
    }

    private static void firstThatCannotBe() {
        sentence("Terms 3: JUDGED: the first that cannot be, whatever the unknown ones ahead were; NOT");
        CutFromOthers x = five();
        int[][] told = {
            {0}, {4}, {4, 4}, {2, 3}, {3, 1, 0}, {3, 1, 0, 0}, {0, 1}, {1, 1}, {-1, 4}, {-1, 3}, {-1, -1, 3}, {-1, 0}, {4, -1, 1, 0},
            {4, -1, 0, 1}, {-1, 2, -1, 0}, {-1, -1, 2}, {9, 9}, {0, 9}, {4, 2, 1, 0, -1}
        };
        int[] ofPlus = {NOT, 0, 0, 1, NOT, 3, 1, 1, 1, 1, 2, NOT, 0, 0, 1, 2, 0, 1, 0};
        int[] ofSquare = {NOT, NOT, 1, 1, NOT, 3, 1, 1, 1, NOT, 2, NOT, NOT, 3, NOT, 2, 0, 1, 4};
        for (int i = 0; i < told.length; i++) {
            x = five();
            x.row(0, 0, told[i].length);
            for (int k = 0; k < told[i].length; k++) {
                x.put(0, k, told[i][k]);
            }
            due("case " + i + " of a plus", x.judge(0, 0), ofPlus[i]);
            due("case " + i + " of the square", x.judge(0, 1), ofSquare[i]);
            due("case " + i + " of one cell", x.judge(0, 2), 0);
        }
    }

    private static void unknownThatCannotBe() {
        sentence("Terms 3: an unknown one: no FIGURE can be");
        CutFromOthers none = cutting(SQUARE);
        tell(none, 0, 0, -1);
        due("no figures", none.judge(0, 0), 0);
        due("no figures", none.filled(0, 0, 0), 0);
        due("no figures", none.filled(0, 0, 1), NOT);
        due("no figures", none.last(0, 0), 0);
        CutFromOthers x = five();
        tell(x, 0, 0, -1, -1, -1, -1);
        due("three out of a plus, not four", x.judge(0, 0), 3);
        due("four out of the square", x.judge(0, 1), NOT);
        tell(x, 0, 0, 0, -1);
        due("nothing out of one cell", x.judge(0, 1), 1);
        x.cut(12);
        tell(x, 0, 0, -1, -1, -1);
        due("a corner is left of the square: two more", x.judge(0, 1), 2);
    }

    private static void longRows() {
        sentence("Terms 5: of 0 .. 60 elements, told");
        CutFromOthers x = cutting(SQUARE, tenInOneRow());
        x.row(0, 0, 60);
        for (int i = 0; i < 60; i++) {
            x.put(0, i, -1);
        }
        due("the eleventh of sixty", x.judge(0, 0), 10);
        due("filled", x.filled(0, 0, 0), 0);
        due("its first", x.filled(0, 0, 1), NOT);
        due("last", x.last(0, 0), 0);
        x.put(0, 0, 4);
        due("the second of sixty", x.judge(0, 0), 1);
        x.put(0, 0, 10);
        due("the first of sixty", x.judge(0, 0), 0);
    }

    private static void filledCounts() {
        sentence("Terms 3: FILLED: in how many ways unknown ones can be filled so that all is so");
        int[][] told = {{0}, {4, 2, 1, 0}, {-1}, {-1, -1}, {-1, -1, -1}, {-1, -1, -1, -1}, {-1, 1, -1}, {0, 1}, {-1, 0}, {4, -1, 0},
            {-1, -1, -1, -1, -1}, {-1, 4}};
        // one of a corner, three, two; two of a corner, three; corner and three of a plus; and a plus of the square
        int[] ofPlus = {1, 0, 4, 5, 2, 0, 2, 0, 3, 0, 0, 0};
        int[] ofSquare = {1, 1, 5, 9, 7, 2, 3, 0, 4, 3, 0, 0};
        for (int i = 0; i < told.length; i++) {
            CutFromOthers x = five();
            x.row(0, 0, told[i].length);
            for (int k = 0; k < told[i].length; k++) {
                x.put(0, k, told[i][k]);
            }
            due("case " + i + " of a plus", x.filled(0, 0, 0), ofPlus[i]);
            due("case " + i + " of the square", x.filled(0, 1, 0), ofSquare[i]);
            due("case " + i + " of one cell", x.filled(0, 2, 0), 0);
        }
    }

    private static void filledMost() {
        sentence("Terms 3: as many as 9999 are counted");
        // each way is a choice of some of ten, as the cells tell their order: 252 at most, so 9999 is never reached
        int[] ways = {1, 10, 45, 120, 210, 252, 210, 120, 45, 10, 1, 0};
        CutFromOthers x = cutting(SQUARE, tenInOneRow());
        for (int n = 0; n < ways.length; n++) {
            x.row(0, 0, n);
            for (int i = 0; i < n; i++) {
                x.put(0, i, -1);
            }
            due(n + " unknown ones", x.filled(0, 0, 0), ways[n]);
        }
    }

    private static void filledFirst() {
        sentence("Promise 26: the first unknown one (1; NOT: none is unknown, or it is not so)");
        int[][] told = {{0}, {4, 2, 1, 0}, {4, 4}, {-1}, {-1, -1}, {-1, -1, -1}, {-1, -1, -1, -1}, {-1, 0, 1}, {4, -1, -1}, {4, -1, -1, -1},
            {-1, 3}, {3, -1}, {3, -1, 0}, {-1, 0, -1}, {-1, 9}};
        int[] ofSquare = {NOT, NOT, NOT, 0, 1, 2, 4, NOT, 1, 2, 4, 0, 1, NOT, NOT};
        for (int i = 0; i < told.length; i++) {
            CutFromOthers x = five();
            x.row(0, 0, told[i].length);
            for (int k = 0; k < told[i].length; k++) {
                x.put(0, k, told[i][k]);
            }
            due("case " + i + " of the square", x.filled(0, 1, 1), ofSquare[i]);
            due("case " + i + " of one cell", x.filled(0, 2, 1), NOT);
        }
        CutFromOthers ten = cutting(SQUARE, tenInOneRow());
        tell(ten, 0, 0, -1, 9);
        due("the only way", ten.filled(0, 0, 1), 8);
        tell(ten, 0, 0, -1, 8);
        due("no way", ten.filled(0, 0, 1), NOT);
        tell(ten, 0, 0, -1, 4);
        due("the least way", ten.filled(0, 0, 1), 0);
    }

    private static void last() {
        sentence("Terms 3: LAST: which FIGURES (bits) the last of it can be");
        CutFromOthers ten = cutting(SQUARE, tenInOneRow());
        int can = 1023;
        for (int n = 1; n <= 10; n++) {
            ten.row(0, 0, n);
            for (int i = 0; i < n; i++) {
                ten.put(0, i, -1);
            }
            due(n + " unknown ones", ten.last(0, 0), can);
            can ^= 1 << new int[] {8, 9, 7, 6, 5, 0, 1, 2, 3, 4}[n - 1];
        }
        CutFromOthers x = five();
        tell(x, 0, 0, -1);
        due("of a plus", x.last(0, 0), 15);
        due("of the square", x.last(0, 1), 31);
        tell(x, 0, 0, -1, 1);
        due("a known one", x.last(0, 0), 2);
        tell(x, 0, 0, 2, -1);
        due("of a corner", x.last(0, 0), 3);
        tell(x, 0, 0, 0);
        due("the least", x.last(0, 1), 1);
        tell(x, 0, 0, 4);
        due("the greatest", x.last(0, 1), 16);
    }

    private static void lastNotSo() {
        sentence("Promise 27: one that is not so: 0");
        CutFromOthers x = five();
        tell(x, 0, 0, 4, 1);
        due("not so at first", x.last(0, 0), 0);
        due("of the square it is", x.last(0, 1), 2);
        tell(x, 0, 0, 3, 2, -1);
        due("not so in the middle", x.last(0, 1), 0);
        tell(x, 0, 0, 3, 1, 4);
        due("not so at the end", x.last(0, 1), 0);
        tell(x, 0, 0, 3, 1, 0, -1);
        due("none can be the last", x.last(0, 1), 0);
        tell(x, 0, 0, 3, 1, 0);
        due("all is so", x.last(0, 1), 1);
        x.row(0, 0, 0);
        due("an empty one behind one that is so", x.last(0, 1), 0);
    }

    /** Cuts of all, and behind that how many end with each FIGURE, by the words alone. */
    private static int[] drawnByHand(CutFromOthers x, int block, int seed, int n) {
        int[] answers = new int[11];
        int z = seed;
        for (int i = 0; i < n; i++) {
            int end = -1;
            int can = x.egg(x.of(block, 4), 0);
            for (int cut = 0; cut < 10 && can != 0; cut++) {
                z = z * 1103515245 + 12345;
                int ahead = (z >>> 8) % Integer.bitCount(can);
                for (end = 0; ahead > 0 || (can >> end & 1) == 0; end++) {
                    ahead -= can >> end & 1;
                }
                answers[0]++;
                can = x.around(end, 1);
            }
            if (end >= 0) {
                answers[1 + end]++;
            }
        }
        return answers;
    }

    private static void drawnOfNone() {
        sentence("Terms 4: till none can");
        CutFromOthers x = five();
        due("one cell", x.drawn(2, 7, 50, -1), 0);
        for (int f = 0; f <= 4; f++) {
            due("one cell ends with " + f, x.drawn(2, 7, 50, f), 0);
        }
        due("no figures", cutting(SQUARE).drawn(0, 7, 50, -1), 0);
        due("as many cells", cutting(new int[] {TWO}, TWO).drawn(0, 7, 1, 0), 0);
    }

    private static void drawnOfOne() {
        sentence("Promise 28: DRAWN: n blocks (1 .. 50): cuts (figure -1), how many end with a FIGURE");
        CutFromOthers x = cutting(SQUARE, ONE);
        due("n 1", x.drawn(0, 0, 1, -1), 1);
        due("n 50", x.drawn(0, 0, 50, -1), 50);
        due("n 1, ends", x.drawn(0, 0, 1, 0), 1);
        due("n 50, ends", x.drawn(0, 0, 50, 0), 50);
        CutFromOthers like = cutting(new int[] {TWO}, 1, 2, 4, 8, 16, 32, 64, 128, 256, 512);
        int all = 0;
        for (int f = 0; f <= 9; f++) {
            all += like.drawn(0, 3, 50, f);
        }
        due("each ends with one of ten", all, 50);
        due("a cut each", like.drawn(0, 3, 50, -1), 50);
    }

    private static void drawnBySeeds() {
        sentence("Terms 4: z = z * 1103515245 + 12345 (an int; SEED at first) ahead of each cut");
        int[] seeds = {0, 1, -1, 5, 12345, MAX, MIN, MIN + 1, 1 << 30, -1103515245};
        for (int seed : seeds) {
            CutFromOthers x = five();
            CutFromOthers ten = cutting(SQUARE, tenInOneRow());
            int[] ns = {1, 2, 3, 49, 50};
            for (int n : ns) {
                due("cuts by " + seed + " of " + n, x.drawn(1, seed, n, -1), drawnByHand(five(), 1, seed, n)[0]);
                due("cuts of ten by " + seed, ten.drawn(0, seed, n, -1), drawnByHand(cutting(SQUARE, tenInOneRow()), 0, seed, n)[0]);
            }
        }
    }

    private static void drawnEnds() {
        sentence("Terms 4: the ((z >>> 8) % how many)-th by numbers; how many end with a told FIGURE");
        int[] shapes = {FIVE, SLANT, TWO, PLUS, 1 | 1 << 2, 1 | 1 << 11, FIVE | FIVE << 5};
        for (int seed = -40; seed < 40; seed++) {
            CutFromOthers x = cutting(SQUARE, shapes);
            int[] byHand = drawnByHand(cutting(SQUARE, shapes), 0, seed, 50);
            due("cuts by " + seed, x.drawn(0, seed, 50, -1), byHand[0]);
            for (int f = 0; f < shapes.length; f++) {
                due("ends with " + f + " by " + seed, x.drawn(0, seed, 50, f), byHand[1 + f]);
            }
        }
        // by hand: 9 * 1103515245 + 12345 is 1341714958, and 5241074 % 3 is 2
        CutFromOthers three = cutting(new int[] {TWO << 1}, 1, 2, 4);
        due("the third of three", three.drawn(0, 9, 1, 2), 1);
    }

    private static void drawnRefused() {
        sentence("Promise 28: BAD");
        CutFromOthers x = five();
        dueOfAll("n", BAD, n -> x.drawn(0, 5, n, -1), 0, -1, 51, MIN, MAX);
        dueOfAll("n, ends", BAD, n -> x.drawn(0, 5, n, 0), 0, 51);
        dueOfAll("figure", BAD, f -> x.drawn(0, 5, 1, f), -2, 5, 9, 10, MIN, MAX);
        dueOfAll("block", BAD, b -> x.drawn(b, 5, 1, -1), -1, 3, 6, MIN, MAX);
        dueOfAll("n, one cell", BAD, n -> x.drawn(2, 5, n, -1), 0, 51);
        CutFromOthers ten = cutting(SQUARE, tenInOneRow());
        due("the last of ten", ten.drawn(0, 5, 50, 9), 0);
        due("the one that ends", ten.drawn(0, 5, 50, 4), 50);
        due("the eleventh", ten.drawn(0, 5, 50, 10), BAD);
    }
}
