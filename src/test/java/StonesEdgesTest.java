import java.util.List;

/** The edges of promises 36 to 45: STONES and their ACTS, SHELVES with ROWS, what is counted. */
public final class StonesEdgesTest extends Sentences {
    private static final int[][] OVER = {{0}, {0, 1}, {0, 2}, {0, 2, 3}, {0, 1, 4}, {0, 2, 3, 5}, {0, 6}, {0, 1, 4, 7}};

    public static void main(String[] args) {
        bodies();
        actsOfNone();
        actsWrap();
        actsByNumber();
        everyAct();
        traceEdges();
        traceIsLatest();
        keepEdges();
        keepWhatWas();
        rowEdges();
        rowAtFirst();
        lowestBits();
        putRefused();
        putOrder();
        elementRefused();
        shiftWhole();
        shiftAsTheyWere();
        shiftNoPlace();
        shiftOrder();
        shiftSorts();
        taken();
        takenRefused();
        count();
        end();
    }

    private static void bodies() {
        sentence("Terms 5, promise 36: BODIES 0 .. 49, of KINDS (0 .. 7): its number. BAD, FULL");
        CutFromOthers x = new CutFromOthers();
        dueOfAll("kind", BAD, x::body, -1, 8, 9, MIN, MAX);
        due("bodies", x.count(4), 0);
        for (int i = 0; i < 50; i++) {
            due("body " + i, x.body(7 - i % 8), i);
            due("bodies", x.count(4), i + 1);
        }
        for (int kind = 0; kind <= 7; kind++) {
            due("the 51st, of kind " + kind, x.body(kind), FULL);
        }
        dueOfAll("the 51st, of no kind", BAD, x::body, -1, 8);
        due("bodies", x.count(4), 50);
        x.keep(0, 0);
        due("kind of the first", x.taken(0, 0), 7);
        x.keep(0, 49);
        due("kind of the last", x.taken(0, 0), 6);
        due("n of the last", x.act(49, 2, 0), 49);
    }

    private static void actsOfNone() {
        sentence("Promise 37: 0, and no TRACE then: no such STONE, ACT");
        CutFromOthers x = new CutFromOthers();
        dueOfAll("act of no stone yet", 0, body -> x.act(body, 0, 5), 0, -1, 49, 50, MIN, MAX);
        x.body(0);
        x.body(7);
        int[] noStones = {-1, 2, 49, 50, MIN, MAX};
        for (int none : noStones) {
            due("an act", x.act(1, 3, 5), 20);
            due("bodies ran", x.count(5), 14);
            due("stone " + none, x.act(none, 0, 5), 0);
            due("bodies ran", x.count(5), 0);
            due("trace", x.trace(0), BAD);
        }
        int[] noActs = {-1, 4, 5, MIN, MAX};
        for (int none : noActs) {
            x.act(1, 3, 5);
            due("act " + none, x.act(0, none, 5), 0);
            due("bodies ran", x.count(5), 0);
            due("trace", x.trace(0), BAD);
            due("act " + none + " of no stone", x.act(2, none, 5), 0);
        }
        due("the first stone, the first act", x.act(0, 0, 5), 5);
        due("the last act", x.act(0, 3, 5), 10 - 1);
    }

    private static void actsWrap() {
        sentence("Terms 5: ACTS with x (an int that wraps)");
        CutFromOthers x = new CutFromOthers();
        for (int kind = 0; kind <= 7; kind++) {
            x.body(kind);
        }
        due("STONE cuts, n 0", x.act(0, 0, MAX), MAX);
        due("ARM cuts, n 1: x + 4", x.act(1, 0, MAX), MIN + 3);
        due("ARM cuts", x.act(1, 0, MAX - 4), MAX);
        due("ARM cuts", x.act(1, 0, MAX - 3), MIN);
        due("STONE holds", x.act(0, 1, 1 << 30), MIN);
        due("STONE holds", x.act(0, 1, MIN), 0);
        due("STONE holds", x.act(0, 1, MAX), -2);
        due("STONE leaves", x.act(0, 2, MIN), MIN);
        due("STONE tells: holds less 1", x.act(0, 3, 1 << 30), MAX);
        due("KNEE holds: less 2 x and 4", x.act(2, 1, (1 << 30) - 2), MIN);
        due("KNEE holds", x.act(2, 1, MIN), -4);
        due("HAND holds: x + 1", x.act(3, 1, MAX), -2 * (MIN + 3));
        due("HAND leaves: three times", x.act(3, 2, MAX), (MAX ^ 3) * 3);
        due("HAND leaves", x.act(3, 2, MIN), (MIN ^ 3) * 3);
        due("VENUS leaves: less 9", x.act(4, 2, MIN), (MIN ^ 4) - 9);
        due("DUST cuts: 2 x and 12", x.act(6, 0, (1 << 30) - 6), MIN);
        due("DUST cuts", x.act(6, 0, MAX), 10);
        due("BISHOP holds", x.act(7, 1, MAX), (MAX + 7 + 3) * 2 + (2 ^ 7) - 12);
        due("BISHOP tells", x.act(7, 3, MIN), (MIN + 10) * 2 + (5 - 12) - (6 - 12) - 1);
        due("EGG tells", x.act(5, 3, MAX), (-(MIN + 5) * 2 - (1 ^ 5) * 3) ^ 5);
    }

    private static void actsByNumber() {
        sentence("Terms 5: n its number");
        CutFromOthers x = new CutFromOthers();
        for (int i = 0; i < 50; i++) {
            x.body(0);
            due("cuts of " + i, x.act(i, 0, 100), 100 + i);
        }
        due("leaves of the last", x.act(49, 2, 1), 48);
        due("holds of the last", x.act(49, 1, 1), 100);
        due("tells of the last", x.act(49, 3, 1), 52);
    }

    private static void everyAct() {
        sentence("Terms 5: the body of its own KIND, or of the next KIND above that has one; super: from the KIND above");
        int[][][] traces = {
            {{1}, {10, 1}, {11}, {2, 10, 1, 11}},
            {{20, 1}, {10, 20, 1}, {11}, {2, 10, 20, 1, 11}},
            {{1}, {30, 10, 1}, {11}, {2, 30, 10, 1, 11}},
            {{1}, {41, 30, 10, 1}, {40, 11}, {2, 41, 30, 10, 1, 40, 11}},
            {{20, 1}, {10, 20, 1}, {50, 11, 20, 1}, {2, 10, 20, 1, 50, 11, 20, 1}},
            {{1}, {41, 30, 10, 1}, {40, 11}, {60, 2, 41, 30, 10, 1, 40, 11}},
            {{70, 1}, {10, 70, 1}, {11}, {2, 10, 70, 1, 11}},
            {{20, 1}, {80, 10, 20, 1, 50, 11, 20, 1}, {50, 11, 20, 1}, {81, 2, 80, 10, 20, 1, 50, 11, 20, 1, 50, 11, 20, 1}}
        };
        // with x 5, number 0
        int[][] answers = {{5, 10, 5, 9}, {8, 16, 5, 15}, {5, -10, 5, -11}, {5, -12, 15, -15}, {8, 16, 0, 20}, {5, -12, 15, -12},
            {10, 20, 5, 19}, {8, 13, 0, 16}};
        for (int kind = 0; kind <= 7; kind++) {
            CutFromOthers x = new CutFromOthers();
            x.body(kind);
            for (int act = 0; act <= 3; act++) {
                due("act " + act + " of kind " + kind, x.act(0, act, 5), answers[kind][act]);
                due("bodies ran", x.count(5), traces[kind][act].length);
                for (int i = 0; i < traces[kind][act].length; i++) {
                    due("trace " + i + " of act " + act + " of kind " + kind, x.trace(i), traces[kind][act][i]);
                }
                due("no more", x.trace(traces[kind][act].length), BAD);
            }
        }
    }

    private static void traceEdges() {
        sentence("Promise 38: THE TRACE's i-th body; the first 24 are kept. BAD");
        CutFromOthers x = new CutFromOthers();
        dueOfAll("trace of no act", BAD, x::trace, 0, -1, 1, 23, 24, MIN, MAX);
        x.body(7);
        x.act(0, 3, 0);
        // fourteen are the most that any act runs, so 24 are never reached
        due("the first", x.trace(0), 81);
        due("the last", x.trace(13), 1);
        dueOfAll("trace", BAD, x::trace, -1, 14, 23, 24, 25, MIN, MAX);
    }

    private static void traceIsLatest() {
        sentence("Terms 5: THE TRACE: numbers of the bodies that ran in the latest act()");
        CutFromOthers x = new CutFromOthers();
        x.body(7);
        x.body(0);
        x.act(0, 3, 0);
        x.act(1, 0, 0);
        due("one ran", x.count(5), 1);
        due("it is", x.trace(0), 1);
        due("nothing of the act ahead", x.trace(1), BAD);
        x.body(3);
        x.keep(0, 0);
        x.row(1, 0, 1);
        due("a kept one is not run", x.count(5), 1);
        due("trace", x.trace(0), 1);
        x.act(2, 2, 0);
        due("two ran", x.trace(0) * 100 + x.trace(1), 4011);
    }

    private static void keepEdges() {
        sentence("Promise 39: A SHELF holds nothing (body -1), or a STONE: 1. BAD");
        CutFromOthers x = new CutFromOthers();
        dueOfAll("no bodies yet", BAD, body -> x.keep(0, body), 0, 1, 49, -2, MIN, MAX);
        due("nothing", x.keep(0, -1), 1);
        for (int i = 0; i < 50; i++) {
            x.body(i % 8);
        }
        for (int shelf = 0; shelf <= 5; shelf++) {
            due("the first stone on " + shelf, x.keep(shelf, 0), 1);
            due("its kind", x.taken(shelf, 0), 0);
            due("the last stone on " + shelf, x.keep(shelf, 49), 1);
            due("its kind", x.taken(shelf, 1), 1);
        }
        dueOfAll("body", BAD, body -> x.keep(0, body), -2, 50, 51, MIN, MAX);
        dueOfAll("shelf", BAD, shelf -> x.keep(shelf, 0), -1, 6, MIN, MAX);
        dueOfAll("shelf, nothing", BAD, shelf -> x.keep(shelf, -1), -1, 6, MIN, MAX);
        due("it is still there", x.taken(0, 1), 1);
    }

    private static void keepWhatWas() {
        sentence("Terms 5: SHELVES each hold nothing (at first), a STONE, or a ROW");
        CutFromOthers x = new CutFromOthers();
        for (int shelf = 0; shelf <= 5; shelf++) {
            due("nothing on " + shelf, x.taken(shelf, 0), NOTHING);
        }
        x.body(2);
        tell(x, 0, 3, 5, 6);
        due("a stone for a row", x.keep(0, 0), 1);
        due("no row", x.put(0, 0, 1), OTHER);
        due("no element", x.element(0, 0), NONE);
        due("a row for a stone", x.row(0, 3, 2), 1);
        due("no stone", x.taken(0, 0), OTHER);
        due("its elements are 0", x.element(0, 0) + x.element(0, 1), 0);
        due("nothing for a row", x.keep(0, -1), 1);
        due("nothing", x.put(0, 0, 1), NOTHING);
        due("a stone", x.keep(0, 0), 1);
        due("nothing for a stone", x.keep(0, -1), 1);
        due("nothing", x.taken(0, 2), NOTHING);
        due("nothing for nothing", x.keep(0, -1), 1);
    }

    private static void rowEdges() {
        sentence("Promise 40: A SHELF holds a ROW: 1. BAD (sort, n above 60); -14");
        CutFromOthers x = new CutFromOthers();
        tell(x, 0, 1, 7);
        dueOfAll("sort", BAD, sort -> x.row(0, sort, 1), -1, 5, MIN, MAX);
        dueOfAll("sort, n below 0", BAD, sort -> x.row(0, sort, -1), -1, 5);
        dueOfAll("sort, n above 60", BAD, sort -> x.row(0, sort, 61), -1, 5);
        dueOfAll("shelf", BAD, shelf -> x.row(shelf, 0, 1), -1, 6, MIN, MAX);
        dueOfAll("shelf, n below 0", BAD, shelf -> x.row(shelf, 0, -1), -1, 6);
        for (int sort = 0; sort <= 4; sort++) {
            int kind = sort;
            dueOfAll("n of sort " + sort, BAD, n -> x.row(0, kind, n), 61, 62, MAX);
            dueOfAll("n of sort " + sort, BELOW_ZERO, n -> x.row(0, kind, n), -1, -2, MIN);
        }
        due("it stays", x.element(0, 0), 7);
        for (int shelf = 0; shelf <= 5; shelf++) {
            for (int sort = 0; sort <= 4; sort++) {
                due("60 of sort " + sort, x.row(shelf, sort, 60), 1);
                due("its last", x.put(shelf, 59, 1), 1);
                due("behind it", x.put(shelf, 60, 1), NO_PLACE);
                due("none of sort " + sort, x.row(shelf, sort, 0), 1);
                due("its first", x.put(shelf, 0, 1), NO_PLACE);
                due("one of sort " + sort, x.row(shelf, sort, 1), 1);
                due("its first", x.put(shelf, 0, 1), 1);
                due("behind it", x.put(shelf, 1, 1), NO_PLACE);
            }
        }
    }

    private static void rowAtFirst() {
        sentence("Terms 5: 0 at first (false)");
        CutFromOthers x = new CutFromOthers();
        for (int sort = 0; sort <= 4; sort++) {
            x.row(0, sort, 3);
            for (int i = 0; i < 3; i++) {
                due("element " + i + " of sort " + sort, x.element(0, i), 0);
                x.put(0, i, -1);
            }
            x.row(0, sort, 4);
            for (int i = 0; i < 4; i++) {
                due("element " + i + " of a new one of sort " + sort, x.element(0, i), 0);
            }
        }
        x.row(0, 3, 60);
        x.put(0, 59, 9);
        x.row(0, 3, 1);
        x.row(0, 3, 60);
        due("the last, that was there once", x.element(0, 59), 0);
        x.row(0, 3, 60);
        x.put(0, 0, 9);
        x.row(1, 3, 60);
        due("the other shelf's first", x.element(1, 0), 0);
        x.put(0, 59, 8);
        x.put(1, 0, 7);
        due("the last of the one", x.element(0, 59), 8);
        due("the first of the other", x.element(1, 0), 7);
    }

    private static void lowestBits() {
        sentence("Terms 5: what is put in keeps its lowest bits (a boolean: whether it is not 0; 1 or 0)");
        long[] values = {0, 1, -1, 127, 128, -128, -129, 255, 256, 32767, 32768, -32768, -32769, 65535, 65536, MAX, MAX + 1L, MIN,
            MIN - 1L, 1L << 32, 1L << 63, Long.MAX_VALUE, 1L << 40, Long.MIN_VALUE + 1};
        for (long v : values) {
            CutFromOthers x = new CutFromOthers();
            long[] kept = {(byte) v, (short) v, (int) v, v, v == 0 ? 0 : 1};
            for (int sort = 0; sort <= 4; sort++) {
                x.row(sort, sort, 3);
                due("put(" + sort + ", 1, " + v + ")", x.put(sort, 1, v), 1);
                due("sort " + sort + ", " + v, x.element(sort, 1), kept[sort]);
                due("the one ahead", x.element(sort, 0), 0);
                due("the one behind", x.element(sort, 2), 0);
            }
        }
    }

    private static void putRefused() {
        sentence("Promise 41: Element i of a ROW becomes v: 1. BAD, -11, -12, -13");
        CutFromOthers x = new CutFromOthers();
        dueOfAll("shelf", BAD, shelf -> x.put(shelf, 0, 1), -1, 6, MIN, MAX);
        dueOfAll("nothing on shelf", NOTHING, shelf -> x.put(shelf, 0, 1), 0, 1, 2, 3, 4, 5);
        x.body(0);
        x.keep(1, 0);
        due("a stone", x.put(1, 0, 1), OTHER);
        x.row(2, 2, 60);
        dueOfAll("place", NO_PLACE, i -> x.put(2, i, 1), -1, 60, 61, MIN, MAX);
        due("the first place", x.put(2, 0, 5), 1);
        due("the last place", x.put(2, 59, 6), 1);
        due("the first", x.element(2, 0), 5);
        due("the last", x.element(2, 59), 6);
    }

    private static void putOrder() {
        sentence("Answers, of several the one named first: put, element");
        CutFromOthers x = new CutFromOthers();
        x.body(0);
        x.keep(1, 0);
        dueOfAll("no such shelf, no such place", BAD, shelf -> x.put(shelf, -1, 1), -1, 6);
        dueOfAll("nothing there, place", NOTHING, i -> x.put(0, i, 1), -1, 0, 60, MIN, MAX);
        dueOfAll("a stone, place", OTHER, i -> x.put(1, i, 1), -1, 0, 60, MIN, MAX);
        x.row(2, 0, 0);
        dueOfAll("a row of none, place", NO_PLACE, i -> x.put(2, i, 1), -1, 0, 60, MIN, MAX);
    }

    private static void elementRefused() {
        sentence("Promise 42: Element i of a ROW; Long.MIN_VALUE: BAD, -11 to -13");
        CutFromOthers x = new CutFromOthers();
        x.body(0);
        x.keep(1, 0);
        x.row(2, 3, 60);
        x.row(3, 3, 0);
        dueOfAll("shelf", NONE, shelf -> x.element(shelf, 0), -1, 6, MIN, MAX);
        dueOfAll("nothing there, place", NONE, i -> x.element(0, i), -1, 0, 60);
        dueOfAll("a stone, place", NONE, i -> x.element(1, i), -1, 0, 60);
        dueOfAll("place", NONE, i -> x.element(2, i), -1, 60, 61, MIN, MAX);
        dueOfAll("place of none", NONE, i -> x.element(3, i), -1, 0, 1, MIN, MAX);
        dueOfAll("place that is", 0, i -> x.element(2, i), 0, 1, 59);
        x.put(2, 0, Long.MIN_VALUE);
        due("the least long itself", x.element(2, 0), Long.MIN_VALUE);
    }

    private static void shiftWhole() {
        sentence("Promise 43: n elements of a ROW from i on come to another one (or the same) from j on: n");
        CutFromOthers x = new CutFromOthers();
        x.row(0, 2, 60);
        x.row(1, 2, 60);
        for (int i = 0; i < 60; i++) {
            x.put(0, i, 100 + i);
        }
        due("all sixty", x.shift(0, 0, 1, 0, 60), 60);
        due("the first", x.element(1, 0), 100);
        due("the last", x.element(1, 59), 159);
        due("one, the last to the first", x.shift(0, 59, 1, 0, 1), 1);
        due("the first", x.element(1, 0), 159);
        due("the second stays", x.element(1, 1), 101);
        due("one, the first to the last", x.shift(0, 0, 1, 59, 1), 1);
        due("the last", x.element(1, 59), 100);
        due("the last but one stays", x.element(1, 58), 158);
        due("the other row stays", x.element(0, 59), 159);
        due("none", x.shift(0, 0, 1, 0, 0), 0);
        due("none, behind both last ones", x.shift(0, 60, 1, 60, 0), 0);
        x.row(2, 2, 0);
        due("none of none", x.shift(2, 0, 2, 0, 0), 0);
        due("none of none to sixty", x.shift(2, 0, 0, 60, 0), 0);
        due("all to itself", x.shift(0, 0, 0, 0, 60), 60);
        due("the last", x.element(0, 59), 159);
    }

    private static void shiftAsTheyWere() {
        sentence("Promise 43: as they all were before");
        CutFromOthers x = new CutFromOthers();
        for (int sort = 0; sort <= 3; sort++) {
            tell(x, 0, sort, 1, 2, 3, 4, 5);
            due("behind, by one", x.shift(0, 0, 0, 1, 4), 4);
            due("as they were: " + elements(x, 0, 5), same(elements(x, 0, 5), 1, 1, 2, 3, 4), 1);
            tell(x, 0, sort, 1, 2, 3, 4, 5);
            due("ahead, by one", x.shift(0, 1, 0, 0, 4), 4);
            due("as they were: " + elements(x, 0, 5), same(elements(x, 0, 5), 2, 3, 4, 5, 5), 1);
            tell(x, 0, sort, 1, 2, 3, 4, 5);
            due("behind, by two", x.shift(0, 0, 0, 2, 3), 3);
            due("as they were: " + elements(x, 0, 5), same(elements(x, 0, 5), 1, 2, 1, 2, 3), 1);
        }
        tell(x, 1, 4, 5, 0, 0, 1);
        due("booleans", x.shift(1, 0, 1, 1, 3), 3);
        due("as they were: " + elements(x, 1, 4), same(elements(x, 1, 4), 1, 1, 0, 0), 1);
    }

    private static int same(List<Long> got, long... want) {
        for (int i = 0; i < want.length; i++) {
            if (got.get(i) != want[i]) {
                return 0;
            }
        }
        return 1;
    }

    private static void shiftNoPlace() {
        sentence("Promise 43: -13 a place that is not there");
        CutFromOthers x = new CutFromOthers();
        tell(x, 0, 2, 1, 2, 3, 4);
        tell(x, 1, 2, 7, 8);
        dueOfAll("from", NO_PLACE, i -> x.shift(0, i, 1, 0, 1), -1, 4, 5, 60, MIN, MAX);
        dueOfAll("from, none", NO_PLACE, i -> x.shift(0, i, 1, 0, 0), -1, 5, 60, MIN, MAX);
        dueOfAll("to", NO_PLACE, j -> x.shift(0, 0, 1, j, 1), -1, 2, 3, 60, MIN, MAX);
        dueOfAll("to, none", NO_PLACE, j -> x.shift(0, 0, 1, j, 0), -1, 3, 60, MIN, MAX);
        dueOfAll("n of four to two", NO_PLACE, n -> x.shift(0, 0, 1, 0, n), 3, 4, 5, 60, 61, MAX, -1, -2, MIN);
        dueOfAll("n of two to four", NO_PLACE, n -> x.shift(1, 0, 0, 0, n), 3, 4, 5, MAX, -1, MIN);
        dueOfAll("n from 1", NO_PLACE, n -> x.shift(0, 1, 0, 0, n), 4, MAX, MAX - 1, -1, MIN);
        dueOfAll("n to 1", NO_PLACE, n -> x.shift(0, 0, 0, 1, n), 4, MAX, MAX - 1, -1, MIN);
        due("far behind, and far too many", x.shift(0, MAX, 1, MAX, MAX), NO_PLACE);
        due("far ahead, and far too many", x.shift(0, MIN, 1, MIN, MAX), NO_PLACE);
        due("they stay", same(elements(x, 0, 4), 1, 2, 3, 4) + same(elements(x, 1, 2), 7, 8), 2);
        due("three from 1", x.shift(0, 1, 0, 1, 3), 3);
        due("two", x.shift(0, 2, 1, 0, 2), 2);
        due("they came", same(elements(x, 1, 2), 3, 4), 1);
    }

    private static void shiftOrder() {
        sentence("Promise 43: BAD, -11 (either), -12 (no ROWS, or of unlike sorts), -13: of several the one named first");
        CutFromOthers x = new CutFromOthers();
        x.body(0);
        x.keep(1, 0);
        x.row(2, 2, 2);
        x.row(3, 3, 2);
        int[] noShelves = {-1, 6, MIN, MAX};
        for (int none : noShelves) {
            dueOfAll("shelf " + none + " to", BAD, other -> x.shift(none, -1, other, -1, -1), 0, 1, 2, 3, none);
            dueOfAll("to shelf " + none + " from", BAD, shelf -> x.shift(shelf, -1, none, -1, -1), 0, 1, 2, 3);
        }
        dueOfAll("from nothing to", NOTHING, other -> x.shift(0, -1, other, -1, -1), 0, 1, 2, 3, 4);
        dueOfAll("to nothing from", NOTHING, shelf -> x.shift(shelf, -1, 0, -1, -1), 0, 1, 2, 3, 4);
        dueOfAll("from a stone to", OTHER, other -> x.shift(1, -1, other, -1, -1), 1, 2, 3);
        dueOfAll("to a stone from", OTHER, shelf -> x.shift(shelf, -1, 1, -1, -1), 1, 2, 3);
        due("unlike sorts, no such places", x.shift(2, -1, 3, -1, -1), OTHER);
        due("unlike sorts, none", x.shift(2, 0, 3, 0, 0), OTHER);
        due("no such places", x.shift(2, -1, 2, -1, -1), NO_PLACE);
        due("all is so", x.shift(2, 0, 2, 0, 2), 2);
    }

    private static void shiftSorts() {
        sentence("Promise 43: -12 (of unlike sorts)");
        CutFromOthers x = new CutFromOthers();
        for (int one = 0; one <= 4; one++) {
            for (int other = 0; other <= 4; other++) {
                x.row(0, one, 3);
                x.row(5, other, 3);
                x.put(0, 2, 1);
                due("sort " + one + " to sort " + other, x.shift(0, 2, 5, 0, 1), one == other ? 1 : OTHER);
                due("it came", x.element(5, 0), one == other ? 1 : 0);
                due("back", x.shift(5, 1, 0, 0, 2), one == other ? 2 : OTHER);
            }
        }
    }

    private static void taken() {
        sentence("Promise 44: What a SHELF holds, taken for a STONE of KIND k (0 .. 7), or under it: its KIND. -12");
        for (int kind = 0; kind <= 7; kind++) {
            CutFromOthers x = new CutFromOthers();
            x.body(kind);
            x.keep(5, 0);
            for (int k = 0; k <= 7; k++) {
                boolean over = false;
                for (int one : OVER[kind]) {
                    over |= one == k;
                }
                due("kind " + kind + " for " + k, x.taken(5, k), over ? kind : OTHER);
            }
        }
    }

    private static void takenRefused() {
        sentence("Promise 44: BAD, -11, -12");
        CutFromOthers x = new CutFromOthers();
        x.body(0);
        x.keep(1, 0);
        x.row(2, 0, 1);
        x.row(3, 4, 0);
        for (int shelf = 0; shelf <= 3; shelf++) {
            int one = shelf;
            dueOfAll("shelf " + shelf + ", kind", BAD, k -> x.taken(one, k), -1, 8, MIN, MAX);
        }
        dueOfAll("shelf", BAD, shelf -> x.taken(shelf, 0), -1, 6, MIN, MAX);
        dueOfAll("shelf, no kind", BAD, shelf -> x.taken(shelf, 8), -1, 6);
        for (int k = 0; k <= 7; k++) {
            due("nothing there", x.taken(0, k), NOTHING);
            due("a stone", x.taken(1, k), k == 0 ? 0 : OTHER);
            due("a row", x.taken(2, k), OTHER);
            due("a row of none", x.taken(3, k), OTHER);
        }
    }

    private static void count() {
        sentence("Promise 45: How many: 0 FIGURES, 1 BLOCKS, 2 bytes, 3 changes, 4 BODIES, 5 bodies that ran. BAD");
        CutFromOthers x = new CutFromOthers();
        dueOfAll("what", BAD, x::count, -1, 6, 7, MIN, MAX);
        dueOfAll("nothing of", 0, x::count, 0, 1, 2, 3, 4, 5);
        for (int i = 0; i < 120; i++) {
            x.feed('w');
            if (i < 10) {
                x.figure(ONE);
            }
            if (i < 6) {
                x.block(ONE);
            }
            if (i < 50) {
                x.body(7);
            }
        }
        for (int i = 0; i < 40; i++) {
            x.mend(0, 0, i);
        }
        x.act(49, 3, 1);
        int[] most = {10, 6, 120, 40, 50, 14};
        for (int what = 0; what <= 5; what++) {
            due("the most of " + what, x.count(what), most[what]);
        }
        due("one more figure", x.figure(ONE), FULL);
        due("one more block", x.block(ONE), FULL);
        due("one more byte", x.feed('w'), FULL);
        due("one more change", x.mend(0, 0, 99), 39);
        due("one more body", x.body(7), FULL);
        for (int what = 0; what <= 5; what++) {
            due("the most of " + what, x.count(what), most[what]);
        }
    }
}
