/** The edges of promises 16 to 24: rows of cuttings, what they bring, who is in them, two by turns, THE EGG. */
public final class RowsEdgesTest extends Sentences {
    private static final int[] ROW_OF_TEN = {8, 9, 7, 6, 5, 0, 1, 2, 3, 4};
    private static final int[] SQUARE = {WHOLE};

    public static void main(String[] args) {
        longestOfNone();
        longestOfTen();
        longestFirstByNumbers();
        longestOfLeft();
        longestRefused();
        richestOfNone();
        richestBeyond();
        richestByPlace();
        richestShortest();
        richestFirstByNumbers();
        richestRefused();
        with();
        withNot();
        withRefused();
        spare();
        spareRefused();
        when();
        smallest();
        smallestOfAllPlaces();
        smallestRefused();
        leave();
        leaveNot();
        byTurns();
        egg();
        end();
    }

    private static void longestOfNone() {
        sentence("Promise 16: LONGEST: how many (k -1), the k-th. NOT: there are not as many");
        CutFromOthers none = cutting(SQUARE);
        due("no figures", none.longest(0, -1), 0);
        dueOfAll("no figures, k", NOT, k -> none.longest(0, k), 0, 1, 9, 10, MAX);
        CutFromOthers x = cutting(new int[] {ONE, TWO, THREE}, ONE, TWO);
        due("none of one cell", x.longest(0, -1), 0);
        dueOfAll("none of one cell, k", NOT, k -> x.longest(0, k), 0, 1, 10, MAX);
        due("one of two", x.longest(1, -1), 1);
        due("it is", x.longest(1, 0), 0);
        dueOfAll("one of two, k", NOT, k -> x.longest(1, k), 1, 2, 10, MAX);
        due("two of three", x.longest(2, -1), 2);
        due("the second", x.longest(2, 1), 0);
        due("no third", x.longest(2, 2), NOT);
    }

    private static void longestOfTen() {
        sentence("Terms 2: LONGEST: the most FIGURES of any");
        CutFromOthers x = cutting(SQUARE, tenInOneRow());
        due("longest(0, -1)", x.longest(0, -1), 10);
        for (int k = 0; k < 10; k++) {
            due("longest(0, " + k + ")", x.longest(0, k), ROW_OF_TEN[k]);
        }
        dueOfAll("k", NOT, k -> x.longest(0, k), 10, 11, MAX);
    }

    private static void longestFirstByNumbers() {
        sentence("Terms 2: of like rows the first by numbers");
        int[][] figures = {
            {THREE, TWO, CORNER, ONE}, {CORNER, TWO, THREE, ONE}, {TEE, CORNER, THREE, TWO, ONE}, {TEE, THREE, CORNER, TWO, ONE},
            {TWO, ONE, 1 << 24}, {ONE, 1 << 24, TWO, 1 << 3}, {ONE, TWO, 1 << 5 | 1, SLANT, CORNER}
        };
        int[][] rows = {{0, 1, 3}, {0, 1, 3}, {0, 1, 3, 4}, {0, 1, 3, 4}, {0, 1}, {2, 0}, {4, 1, 0}};
        for (int i = 0; i < figures.length; i++) {
            CutFromOthers x = cutting(SQUARE, figures[i]);
            due("how many in case " + i, x.longest(0, -1), rows[i].length);
            for (int k = 0; k < rows[i].length; k++) {
                due("longest(0, " + k + ") in case " + i, x.longest(0, k), rows[i][k]);
            }
        }
    }

    private static void longestOfLeft() {
        sentence("Terms 2: A ROW OF CUTTINGS from a BLOCK: the first CUT OUT of what is LEFT");
        CutFromOthers x = cutting(new int[] {PLUS, PLUS << 12, WHOLE}, PLUS, CORNER, THREE, TWO, ONE);
        due("no plus of a plus", x.longest(0, -1), 3);
        due("first", x.longest(0, 0), 1);
        due("of the square", x.longest(2, -1), 4);
        x.cut(12);
        due("three are left of the second", x.longest(1, -1), 2);
        due("of the first all is", x.longest(0, -1), 3);
        x.cut(14);
        due("one cell is left", x.longest(1, -1), 0);
        due("nothing more", x.longest(1, 0), NOT);
    }

    private static void longestRefused() {
        sentence("Promise 16: BAD");
        CutFromOthers x = cutting(new int[] {WHOLE, ONE}, ONE);
        dueOfAll("k", BAD, k -> x.longest(0, k), -2, -3, MIN);
        dueOfAll("k, of one cell", BAD, k -> x.longest(1, k), -2, MIN);
        dueOfAll("block", BAD, b -> x.longest(b, -1), -1, 2, 5, 6, MIN, MAX);
        dueOfAll("block, k 10", BAD, b -> x.longest(b, 10), -1, 2);
        CutFromOthers six = cutting(new int[] {1, 1, 1, 1, 1, WHOLE}, ONE);
        due("the last block", six.longest(5, -1), 1);
        dueOfAll("block of six", BAD, b -> six.longest(b, -1), -1, 6);
    }

    private static void richestOfNone() {
        sentence("Promise 17: RICHEST from a year on: that (k -1), the k-th. NOT likewise");
        CutFromOthers none = cutting(SQUARE);
        due("no figures", none.richest(0, 0, -1), 0);
        dueOfAll("no figures, k", NOT, k -> none.richest(0, 0, k), 0, 9, 10, MAX);
        CutFromOthers x = cutting(new int[] {ONE, TWO}, ONE, TWO);
        due("none of one cell", x.richest(0, 99, -1), 0);
        due("none of one cell", x.richest(0, 99, 0), NOT);
        due("one of two", x.richest(1, 99, -1), 100);
        due("it is", x.richest(1, 99, 0), 0);
        dueOfAll("one of two, k", NOT, k -> x.richest(1, 99, k), 1, 2, 10, MAX);
        law(x, "0");
        due("nothing is brought: the shortest is none", x.richest(1, 0, -1), 0);
        due("nothing is brought: the shortest is none", x.richest(1, 0, 0), NOT);
    }

    private static void richestBeyond() {
        sentence("Terms 2: RICHEST: from a year (0 .. 99) on, one a year (beyond 99, too): that which brings most together");
        CutFromOthers x = cutting(SQUARE, tenInOneRow());
        law(x, "a");
        due("years 0 to 9", x.richest(0, 0, -1), 45);
        due("years 99 to 108", x.richest(0, 99, -1), 1035);
        due("years 91 to 100", x.richest(0, 91, -1), 955);
        for (int k = 0; k < 10; k++) {
            due("richest(0, 99, " + k + ")", x.richest(0, 99, k), ROW_OF_TEN[k]);
        }
        dueOfAll("k", NOT, k -> x.richest(0, 99, k), 10, 11, MAX);
        law(x, "n");
        due("n 0 to 9", x.richest(0, 5, -1), 45);
        law(x, "9999");
        due("each brings most", x.richest(0, 0, -1), 99990);
        CutFromOthers y = cutting(SQUARE, TWO, ONE);
        y.mend(1, 1, 9);
        y.mend(1, 2, 99);
        due("in year 99, then 100", y.richest(0, 99, -1), 191);
        due("in year 98, then 99", y.richest(0, 98, -1), 200);
        y.mend(1, 2, 0);
        y.mend(1, 0, 900);
        due("in year 100: 0, in year 99: 9", y.richest(0, 99, -1), 100);
        due("so it is", y.richest(0, 99, 0), 0);
        due("and nothing more", y.richest(0, 99, 1), NOT);
        due("in year 99: 9 is more than 0", cutting(SQUARE, ONE).richest(0, 99, -1), 100);
    }

    private static void richestByPlace() {
        sentence("Terms 1: n how many were cut ahead of it in that row");
        CutFromOthers x = cutting(SQUARE, CORNER, THREE);
        law(x, "n?k*80+10;90-k*80");
        due("90 by the one that is cut first", x.richest(0, 0, -1), 90);
        due("it is", x.richest(0, 0, 0), 0);
        law(x, "n?90-k*80;k*80+10");
        due("90 by the other one", x.richest(0, 0, -1), 90);
        due("it is", x.richest(0, 0, 0), 1);
        law(x, "1");
        due("1 is more than nothing", x.richest(0, 0, -1), 1);
        due("it is", x.richest(0, 0, 0), 0);
        CutFromOthers y = cutting(SQUARE, PLUS, THREE, ONE);
        y.cut(0);
        law(y, "n*10+1");
        due("not what was cut of the block", y.richest(0, 0, -1), 12);
        due("nor the years that passed", y.pass(50), 50);
        law(y, "a+1");
        due("from year 7 on", y.richest(0, 7, -1), 8 + 9);
    }

    private static void richestShortest() {
        sentence("Terms 2: of like ones the shortest");
        CutFromOthers x = cutting(SQUARE, THREE, TWO, ONE);
        x.mend(0, 0, 0);
        x.mend(2, 0, 0);
        due("100 by the second alone", x.richest(0, 0, -1), 100);
        due("it is", x.richest(0, 0, 0), 1);
        due("not one that brings nothing", x.richest(0, 0, 1), NOT);
        x.mend(0, 0, 60);
        x.mend(1, 0, 40);
        x.mend(2, 0, 0);
        due("60 and 40", x.richest(0, 0, -1), 100);
        due("and nothing more", x.richest(0, 0, 2), NOT);
        CutFromOthers y = cutting(SQUARE, TWO, ONE, SLANT, FIVE);
        y.mend(0, 0, 50);
        y.mend(1, 0, 50);
        y.mend(2, 0, 50);
        due("100 by one", y.richest(0, 0, -1), 200);
        due("five, two, one", y.richest(0, 0, 0), 3);
        y.mend(3, 0, 50);
        y.mend(2, 0, 100);
        due("two rows bring 150", y.richest(0, 0, -1), 150);
        due("the shorter one", y.richest(0, 0, 0), 2);
        due("its second", y.richest(0, 0, 1), 1);
        due("it has no third", y.richest(0, 0, 2), NOT);
        y.mend(3, 0, 51);
        due("now the longer one", y.richest(0, 0, 0), 3);
    }

    private static void richestFirstByNumbers() {
        sentence("Terms 2: of like ones the shortest, then the first by numbers");
        int[][] figures = {{CORNER, THREE}, {PLUS, THREE, CORNER, TWO}, {TWO, ONE, 1 << 24}, {TEE, ONE, SLANT, TWO, 1 << 7}};
        int[][] rows = {{0}, {0, 1, 3}, {0, 1}, {0, 2, 1}};
        for (int i = 0; i < figures.length; i++) {
            CutFromOthers x = cutting(SQUARE, figures[i]);
            due("what it brings in case " + i, x.richest(0, 0, -1), 100 * rows[i].length);
            for (int k = 0; k < rows[i].length; k++) {
                due("richest(0, 0, " + k + ") in case " + i, x.richest(0, 0, k), rows[i][k]);
            }
            due("no more in case " + i, x.richest(0, 0, rows[i].length), NOT);
        }
    }

    private static void richestRefused() {
        sentence("Promise 17: BAD");
        CutFromOthers x = cutting(new int[] {WHOLE, ONE}, ONE);
        dueOfAll("k", BAD, k -> x.richest(0, 0, k), -2, -3, MIN);
        dueOfAll("year", BAD, year -> x.richest(0, year, -1), -1, 100, MIN, MAX);
        dueOfAll("year, k 10", BAD, year -> x.richest(1, year, 10), -1, 100);
        dueOfAll("block", BAD, b -> x.richest(b, 0, -1), -1, 2, 6, MIN, MAX);
        dueOfAll("block, k 0", BAD, b -> x.richest(b, 0, 0), -1, 2);
        due("year 0", x.richest(0, 0, -1), 100);
        due("year 99", x.richest(0, 99, -1), 100);
    }

    private static void with() {
        sentence("Terms 2: WITH: the LONGEST that has both of two FIGURES: how many");
        CutFromOthers ten = cutting(SQUARE, tenInOneRow());
        due("the greatest and the least", ten.with(0, 84), 10);
        due("either way", ten.with(0, 48), 10);
        due("the greatest ab", ten.with(0, 98), 10);
        due("the least ab", ten.with(0, 1), 10);
        CutFromOthers x = cutting(new int[] {WHOLE, TWO, THREE}, FIVE, FOUR, THREE, TWO, ONE, PLUS, CORNER);
        due("a plus and one", x.with(0, 54), 4);
        due("a plus and a corner", x.with(0, 65), 4);
        due("a corner and one", x.with(0, 46), 4);
        due("five and four", x.with(0, 1), 5);
        due("two and one of three", x.with(2, 34), 2);
        CutFromOthers two = cutting(SQUARE, ONE, TWO);
        due("those two alone", two.with(0, 1), 2);
        due("those two alone", two.with(0, 10), 2);
    }

    private static void withNot() {
        sentence("Promise 18: WITH. NOT");
        CutFromOthers x = cutting(new int[] {WHOLE, TWO, ONE}, CORNER, THREE, TWO, ONE, 1 << 24);
        due("neither of the other: as many cells", x.with(0, 1), NOT);
        due("like ones", x.with(0, 34), NOT);
        due("one of two is not out of two", x.with(1, 23), NOT);
        due("nor is it the other way", x.with(1, 32), NOT);
        due("both are not", x.with(1, 2), NOT);
        due("none of one cell", x.with(2, 23), NOT);
        due("of the square both are", x.with(0, 23), 3);
    }

    private static void withRefused() {
        sentence("Promise 18: BAD (one and the same, too)");
        CutFromOthers x = cutting(new int[] {WHOLE, ONE}, ONE, TWO, THREE);
        dueOfAll("ab", BAD, ab -> x.with(0, ab), 0, 11, 22, 3, 30, 33, 99, 100, 120, -1, -10, MIN, MAX);
        dueOfAll("ab, of one cell", BAD, ab -> x.with(1, ab), 0, 11, 3);
        dueOfAll("block", BAD, b -> x.with(b, 1), -1, 2, 6, MIN, MAX);
        dueOfAll("block, like ones", BAD, b -> x.with(b, 0), -1, 0, 2);
    }

    private static void spare() {
        sentence("Terms 2: SPARE: without which FIGURE the LONGEST is shortest (of like ones the least); how long it is then");
        CutFromOthers ten = cutting(SQUARE, tenInOneRow());
        due("each of ten: the least", ten.spare(0, 0), 0);
        due("nine", ten.spare(0, 1), 9);
        CutFromOthers one = cutting(new int[] {WHOLE, ONE}, ONE);
        due("the only one", one.spare(0, 0), 0);
        due("none is left", one.spare(0, 1), 0);
        due("it is in no row", one.spare(1, 0), 0);
        due("none is left", one.spare(1, 1), 0);
        CutFromOthers second = cutting(SQUARE, CORNER, TWO, THREE, SLANT, ONE);
        due("one cell is in all rows: the last", second.spare(0, 0), 4);
        due("two", second.spare(0, 1), 2);
        CutFromOthers middle = cutting(SQUARE, THREE, ONE, CORNER);
        due("the second", middle.spare(0, 0), 1);
        due("one", middle.spare(0, 1), 1);
        CutFromOthers third = cutting(SQUARE, CORNER, THREE, TWO, ONE);
        due("two of like ones, the least", third.spare(0, 0), 2);
        due("two", third.spare(0, 1), 2);
        CutFromOthers none = cutting(SQUARE, CORNER, THREE, 98);
        due("none is missed: the least", none.spare(0, 0), 0);
        due("one", none.spare(0, 1), 1);
    }

    private static void spareRefused() {
        sentence("Promise 19: BAD; NOT: no FIGURES");
        CutFromOthers x = cutting(SQUARE);
        due("the figure", x.spare(0, 0), NOT);
        due("how long", x.spare(0, 1), NOT);
        dueOfAll("what, no figures", BAD, what -> x.spare(0, what), -1, 2, MIN, MAX);
        dueOfAll("block, no figures", BAD, b -> x.spare(b, 0), -1, 1, 6, MIN, MAX);
        x.figure(ONE);
        due("now there is one", x.spare(0, 0), 0);
        dueOfAll("what", BAD, what -> x.spare(0, what), -1, 2, MIN, MAX);
        dueOfAll("block", BAD, b -> x.spare(b, 1), -1, 1, 6, MIN, MAX);
    }

    private static void when() {
        sentence("Terms 2: WHEN: in which year (0 .. 99) a FIGURE brings most, cut first (of like ones the least); that. BAD");
        CutFromOthers x = with(ONE);
        due("all alike", x.when(0, 0), 0);
        due("that", x.when(0, 1), 100);
        x.mend(0, 1, 1);
        x.mend(0, 2, 99);
        due("the last year", x.when(0, 0), 99);
        x.mend(0, 2, 98);
        due("the last but one", x.when(0, 0), 98);
        x.mend(0, 2, 0);
        due("the first", x.when(0, 0), 0);
        x.mend(0, 0, 0);
        due("nothing: the least", x.when(0, 0), 0);
        due("that", x.when(0, 1), 0);
        law(x, "a");
        due("the farthest", x.when(0, 0), 99);
        due("that", x.when(0, 1), 99);
        law(x, "n?500;a>40&a<50?7;3");
        due("of like ones the least, cut first", x.when(0, 0), 41);
        due("that", x.when(0, 1), 7);
        law(x, "a*200");
        due("50 is held, so are all behind it", x.when(0, 0), 50);
        due("that", x.when(0, 1), 9999);
        dueOfAll("what", BAD, what -> x.when(0, what), -1, 2, MIN, MAX);
        dueOfAll("figure", BAD, f -> x.when(f, 0), -1, 1, 9, 10, MIN, MAX);
        dueOfAll("figure, that", BAD, f -> x.when(f, 1), -1, 1);
        due("the tenth", with(tenInOneRow()).when(9, 1), 100);
    }

    private static void smallest() {
        sentence("Terms 2: SMALLEST: the fewest cells of a SHAPE that two FIGURES FIT (in the whole square); the least such SHAPE");
        CutFromOthers x = with(ONE, 1 << 24, WHOLE, FIVE << 20, 1082401, 1 | 1 << 24, WHOLE, TWO << 7, SLANT, 1 << 4 | 1 << 20);
        int[] twos = {1, 10, 2, 20, 26, 62, 34, 43, 35, 53, 78, 87, 59, 95, 7, 37, 29};
        int[] cells = {1, 1, 25, 25, 25, 25, 5, 5, 6, 6, 3, 3, 2, 2, 2, 5, 25};
        int[] shapes = {1, 1, WHOLE, WHOLE, WHOLE, WHOLE, FIVE, FIVE, FIVE | 1 << 20, FIVE | 1 << 20, CORNER, CORNER,
            1 << 4 | 1 << 20, 1 << 4 | 1 << 20, TWO, FIVE, WHOLE};
        for (int i = 0; i < twos.length; i++) {
            due("smallest(" + twos[i] + ", 0)", x.smallest(twos[i], 0), cells[i]);
            due("smallest(" + twos[i] + ", 1)", x.smallest(twos[i], 1), shapes[i]);
        }
    }

    /** Each way of the one with each way of the other. */
    private static int leastByHand(CutFromOthers x, int a, int b) {
        int least = WHOLE;
        int[] others = placesOf(x, b);
        for (int one : placesOf(x, a)) {
            for (int other : others) {
                int fewer = Integer.bitCount(one | other) - Integer.bitCount(least);
                if (fewer < 0 || fewer == 0 && (one | other) < least) {
                    least = one | other;
                }
            }
        }
        return least;
    }

    private static int[] placesOf(CutFromOthers x, int figure) {
        int[] sides = {6 - x.size(figure, 1), 6 - x.size(figure, 2)};
        int[] places = new int[4 * sides[0] * sides[1]];
        int placed = 0;
        for (int turn = 0; turn < 4; turn++) {
            int form = x.turned(figure, turn);
            int across = sides[turn % 2];
            for (int place = 0; place < sides[0] * sides[1]; place++) {
                places[placed] = form << 5 * (place / across) + place % across;
                placed++;
            }
        }
        return places;
    }

    private static void smallestOfAllPlaces() {
        sentence("Terms 2: SMALLEST: two FIGURES FIT, each by some WAY (in the whole square)");
        int[] shapes = {CORNER, TEE, PLUS, 99, 1103, 229, 263, 7399, 2279, 1 | 1 << 4, 1 | 1 << 24, 17043521, 4532, 15 | 9 << 5 | 15 << 10,
            FIVE | 1 << 5, 34 | 1 << 10, 1 | 1 << 12, 5 | 5 << 10, 11 | 1 << 20, WHOLE ^ 1 << 12};
        for (int i = 0; i < shapes.length; i++) {
            for (int j = 0; j < shapes.length; j++) {
                int least = leastByHand(with(shapes[i], shapes[j]), 0, 1);
                due("smallest of " + shapes[i] + " and " + shapes[j], with(shapes[i], shapes[j]).smallest(1, 1), least);
                due("cells of it", with(shapes[i], shapes[j]).smallest(1, 0), Integer.bitCount(least));
            }
        }
    }

    private static void smallestRefused() {
        sentence("Promise 21: BAD (one and the same, too)");
        CutFromOthers x = with(ONE, TWO, THREE);
        dueOfAll("ab", BAD, ab -> x.smallest(ab, 0), 0, 11, 22, 3, 13, 30, 99, 100, -1, -10, MIN, MAX);
        dueOfAll("what", BAD, what -> x.smallest(1, what), -1, 2, MIN, MAX);
        dueOfAll("what, like ones", BAD, what -> x.smallest(11, what), 0, 1, 2);
        due("the greatest", x.smallest(21, 0), 3);
        due("the least", x.smallest(1, 1), TWO);
        dueOfAll("ab of ten", BAD, ab -> with(tenInOneRow()).smallest(ab, 0), 99, 100);
        due("98 of ten", with(tenInOneRow()).smallest(98, 0), 24);
    }

    private static void leave() {
        sentence("Terms 2: LEAVE: so that most FIGURES (unlike ones) can still be had (of like ones the least); how many");
        CutFromOthers ten = cutting(SQUARE, tenInOneRow());
        due("the greatest", ten.leave(0, 0), 8);
        due("nine", ten.leave(0, 1), 9);
        CutFromOthers x = cutting(new int[] {WHOLE, TWO}, ONE, TWO, 1 << 5 | 1, 1 << 24, THREE, CORNER);
        due("of like ones the least: a corner has a slant, too, but that is no figure", x.leave(0, 0), 4);
        due("two, two, one, one", x.leave(0, 1), 4);
        x.figure(SLANT);
        due("now the corner", x.leave(0, 0), 5);
        due("five", x.leave(0, 1), 5);
        due("nothing behind one cell", x.leave(1, 1), 0);
        due("of like ones the least", x.leave(1, 0), 0);
    }

    private static void leaveNot() {
        sentence("Promise 22: BAD; NOT: none can be cut");
        CutFromOthers x = cutting(new int[] {ONE, WHOLE, TWO});
        for (int what = 0; what <= 1; what++) {
            due("no figures, what " + what, x.leave(1, what), NOT);
        }
        dueOfAll("what, no figures", BAD, what -> x.leave(1, what), -1, 2, MIN, MAX);
        x.figure(TWO);
        for (int what = 0; what <= 1; what++) {
            due("too great, what " + what, x.leave(0, what), NOT);
            due("as great, what " + what, x.leave(2, what), NOT);
            due("none behind it, what " + what, x.leave(1, what), 0);
        }
        dueOfAll("what, none can be cut", BAD, what -> x.leave(0, what), -1, 2, MIN, MAX);
        dueOfAll("block", BAD, b -> x.leave(b, 0), -1, 3, 6, MIN, MAX);
    }

    private static void byTurns() {
        sentence("Terms 3: BY TURNS: who cannot, loses: whether (1, 0); the first FIGURE (1; NOT); how many cuts (2). BAD");
        CutFromOthers x = cutting(new int[] {ONE, WHOLE, TWO, THREE});
        int[] none = {0, NOT, 0};
        for (int what = 0; what <= 2; what++) {
            due("no figures, what " + what, x.byTurns(1, what), none[what]);
        }
        dueOfAll("what, no figures", BAD, what -> x.byTurns(0, what), -1, 3, MIN, MAX);
        x.figure(THREE);
        x.figure(TWO);
        int[] two = {1, 1, 1};
        for (int what = 0; what <= 2; what++) {
            due("too great, what " + what, x.byTurns(0, what), none[what]);
            due("as great, what " + what, x.byTurns(2, what), none[what]);
            due("by two, what " + what, x.byTurns(1, what), two[what]);
            due("of three, by two, what " + what, x.byTurns(3, what), two[what]);
        }
        x.figure(CORNER);
        due("not by the corner: two come out of it", x.byTurns(1, 1), 1);
        x.figure(SLANT);
        due("by two, not by the slant behind it", x.byTurns(1, 1), 1);
        x.figure(ONE);
        due("by one", x.byTurns(1, 1), 4);
        dueOfAll("what", BAD, what -> x.byTurns(1, what), -1, 3, MIN, MAX);
        dueOfAll("block", BAD, b -> x.byTurns(b, 0), -1, 4, 6, MIN, MAX);
        CutFromOthers first = cutting(SQUARE, ONE, TWO);
        CutFromOthers ten = cutting(SQUARE, tenInOneRow());
        for (int what = 0; what <= 2; what++) {
            due("by the first figure, what " + what, first.byTurns(0, what), new int[] {1, 0, 1}[what]);
        }
        int[] least = {1, 4, 1};
        for (int what = 0; what <= 2; what++) {
            due("by the least of ten, what " + what, ten.byTurns(0, what), least[what]);
        }
    }

    private static void egg() {
        sentence("Terms 3, promise 24: THE EGG: still in it (what 0: bits), of which it is a part (1: bits), cells (2). BAD");
        CutFromOthers none = new CutFromOthers();
        due("no figures: in it", none.egg(WHOLE, 0), 0);
        due("no figures: a part of", none.egg(1, 1), 0);
        due("cells", none.egg(WHOLE, 2), 25);
        due("cells", none.egg(1, 2), 1);
        CutFromOthers ten = with(tenInOneRow());
        due("in the square", ten.egg(WHOLE, 0), 1023);
        due("one cell is a part of all", ten.egg(1 << 24, 1), 1023);
        due("nothing is in one cell", ten.egg(1 << 24, 0), 0);
        due("the square is no part", ten.egg(WHOLE, 1), 0);
        due("all but the greatest are in the greatest", ten.egg(WHOLE - 1, 0), 1023 ^ 1 << 8);
        due("turned, too", ten.egg(WHOLE ^ 1 << 24, 0), 1023 ^ 1 << 8);
        due("the greatest is a part of itself: as many cells", ten.egg(WHOLE - 1, 1), 1 << 8);
        due("turned, too", ten.egg(WHOLE ^ 1 << 24, 1), 1 << 8);
        due("five upright: those in it", ten.egg(1082401 << 4, 0), 30);
        due("five upright: of which a part", ten.egg(1082401 << 4, 1), 1023 ^ 30);
        for (int what = 0; what <= 2; what++) {
            int kind = what;
            dueOfAll("what " + what + ", shape", BAD, shape -> ten.egg(shape, kind), 0, -1, WHOLE + 1, MIN, MAX);
        }
        dueOfAll("what", BAD, what -> ten.egg(1, what), -1, 3, MIN, MAX);
        due("it is no figure then", ten.count(0) + ten.count(1), 10);
    }
}
