import java.util.ArrayList;
import java.util.List;

/** Each call that is refused: its answer, of several the one named first, and that nothing has changed by it. */
public final class RefusalsTest extends Sentences {
    private static final int[] NUMBERS_OF_NONE = {MIN, -1, MAX};
    private static final List<List<List<Long>>> TOLD = new ArrayList<>();

    public static void main(String[] args) {
        for (int state = 0; state < Yards.STATES; state++) {
            TOLD.add(new ArrayList<>());
            for (int part = 0; part < Yards.PARTS; part++) {
                TOLD.get(state).add(Yards.told(Yards.built(state), part));
            }
        }
        badFigures();
        badBlocks();
        badBetween();
        badShapes();
        badLaws();
        badKinds();
        badRows();
        badShelves();
        sameTwo();
        nothingThere();
        someThere();
        allTaken();
        namedFirst();
        actsOfNone();
        faults();
        noneCame();
        questions();
        end();
    }

    private static void refused(int state, String call, long want, Call asked) {
        due(call + ", " + Yards.NAMES[state], asked.on(Yards.built(state)), want);
        same(state, call, asked, Yards.PARTS);
    }

    /** All that can be told is as if the call had not been. */
    private static void same(int state, String call, Call asked, int parts) {
        for (int part = 0; part < parts; part++) {
            CutFromOthers x = Yards.built(state);
            asked.on(x);
            boolean as = Yards.told(x, part).equals(TOLD.get(state).get(part));
            due("nothing has changed (part " + part + ") by " + call + ", " + Yards.NAMES[state], as ? 1 : 0, 1);
        }
    }

    private static void everywhere(String call, long want, Call asked) {
        for (int state = 0; state < Yards.STATES; state++) {
            refused(state, call, want, asked);
        }
    }

    /** A call that is BAD in all states with each value outside least .. most. */
    private static void outside(String call, int least, int most, ValueCall asked) {
        int[] values = {least - 1, most + 1, MIN, MAX};
        for (int value : values) {
            everywhere(call + " with " + value, BAD, x -> asked.on(x, value));
        }
    }

    private interface ValueCall {
        long on(CutFromOthers x, int value);
    }

    private static void badFigures() {
        sentence("BAD: no such number (FIGURES 0 .. 9). What is answered so changes nothing");
        outside("mend(f, 0, 1)", 0, 9, (x, f) -> x.mend(f, 0, 1));
        outside("brings(f, 0, 0)", 0, 9, (x, f) -> x.brings(f, 0, 0));
        outside("size(f, 0)", 0, 9, (x, f) -> x.size(f, 0));
        outside("turned(f, 0)", 0, 9, (x, f) -> x.turned(f, 0));
        outside("around(f, 0)", 0, 9, (x, f) -> x.around(f, 0));
        outside("when(f, 0)", 0, 9, (x, f) -> x.when(f, 0));
        outside("common(set)", 0, 1023, (x, set) -> x.common(set));
        outside("inside(ab)", 1, 98, (x, ab) -> x.inside(ab));
        outside("smallest(ab, 0)", 1, 98, (x, ab) -> x.smallest(ab, 0));
        outside("with(0, ab)", 1, 98, (x, ab) -> x.with(0, ab));
        outside("drawn(0, 1, 1, f)", -1, 9, (x, f) -> x.drawn(0, 1, 1, f));
        for (int what = 0; what <= 3; what++) {
            int kind = what;
            outside("of(f, " + what + ")", 0, 9, (x, f) -> x.of(f, kind));
        }
    }

    private static void badBlocks() {
        sentence("BAD: no such number (BLOCKS 0 .. 5). What is answered so changes nothing");
        outside("of(b, 4)", 0, 5, (x, b) -> x.of(b, 4));
        outside("of(b, 5)", 0, 5, (x, b) -> x.of(b, 5));
        outside("of(number, 6)", 0, 0, (x, number) -> x.of(number, 6));
        outside("ways(bf, 0)", 0, 59, (x, bf) -> x.ways(bf, 0));
        outside("cut(bf)", 0, 59, (x, bf) -> x.cut(bf));
        outside("longest(b, -1)", 0, 5, (x, b) -> x.longest(b, -1));
        outside("richest(b, 0, -1)", 0, 5, (x, b) -> x.richest(b, 0, -1));
        outside("with(b, 1)", 0, 5, (x, b) -> x.with(b, 1));
        outside("spare(b, 0)", 0, 5, (x, b) -> x.spare(b, 0));
        outside("leave(b, 0)", 0, 5, (x, b) -> x.leave(b, 0));
        outside("byTurns(b, 0)", 0, 5, (x, b) -> x.byTurns(b, 0));
        outside("drawn(b, 1, 1, -1)", 0, 5, (x, b) -> x.drawn(b, 1, 1, -1));
        for (int shelf = 0; shelf <= 5; shelf++) {
            int on = shelf;
            outside("judge(" + shelf + ", b)", 0, 5, (x, b) -> x.judge(on, b));
            outside("filled(" + shelf + ", b, 0)", 0, 5, (x, b) -> x.filled(on, b, 0));
            outside("last(" + shelf + ", b)", 0, 5, (x, b) -> x.last(on, b));
        }
    }

    /** Numbers that are so, but have not come yet: of some of all there are 4 figures, 2 blocks, 3 bodies. */
    private static void badBetween() {
        sentence("BAD: no such number (as they come). What is answered so changes nothing");
        int some = Yards.SOME;
        for (int f = 4; f <= 9; f += 5) {
            int none = f;
            refused(some, "mend(" + f + ", 0, 1)", BAD, x -> x.mend(none, 0, 1));
            refused(some, "of(" + f + ", 3)", BAD, x -> x.of(none, 3));
            refused(some, "brings(" + f + ", 0, 0)", BAD, x -> x.brings(none, 0, 0));
            refused(some, "size(" + f + ", 0)", BAD, x -> x.size(none, 0));
            refused(some, "turned(" + f + ", 0)", BAD, x -> x.turned(none, 0));
            refused(some, "ways(" + f + ", 0)", BAD, x -> x.ways(none, 0));
            refused(some, "inside(" + f + ")", BAD, x -> x.inside(none));
            refused(some, "inside(" + 10 * f + ")", BAD, x -> x.inside(10 * none));
            refused(some, "around(" + f + ", 1)", BAD, x -> x.around(none, 1));
            refused(some, "common(" + (1 << f) + ")", BAD, x -> x.common(1 << none));
            refused(some, "with(0, " + f + ")", BAD, x -> x.with(0, none));
            refused(some, "with(0, " + 10 * f + ")", BAD, x -> x.with(0, 10 * none));
            refused(some, "when(" + f + ", 0)", BAD, x -> x.when(none, 0));
            refused(some, "smallest(" + f + ", 0)", BAD, x -> x.smallest(none, 0));
            refused(some, "smallest(" + 10 * f + ", 0)", BAD, x -> x.smallest(10 * none, 0));
            refused(some, "drawn(0, 1, 1, " + f + ")", BAD, x -> x.drawn(0, 1, 1, none));
            refused(some, "cut(" + f + ")", BAD, x -> x.cut(none));
        }
        for (int b = 2; b <= 5; b += 3) {
            int none = b;
            refused(some, "of(" + b + ", 4)", BAD, x -> x.of(none, 4));
            refused(some, "of(" + b + ", 5)", BAD, x -> x.of(none, 5));
            refused(some, "ways(" + 10 * b + ", 0)", BAD, x -> x.ways(10 * none, 0));
            refused(some, "cut(" + 10 * b + ")", BAD, x -> x.cut(10 * none));
            refused(some, "longest(" + b + ", -1)", BAD, x -> x.longest(none, -1));
            refused(some, "richest(" + b + ", 0, -1)", BAD, x -> x.richest(none, 0, -1));
            refused(some, "with(" + b + ", 1)", BAD, x -> x.with(none, 1));
            refused(some, "spare(" + b + ", 0)", BAD, x -> x.spare(none, 0));
            refused(some, "leave(" + b + ", 0)", BAD, x -> x.leave(none, 0));
            refused(some, "byTurns(" + b + ", 0)", BAD, x -> x.byTurns(none, 0));
            refused(some, "judge(0, " + b + ")", BAD, x -> x.judge(0, none));
            refused(some, "filled(0, " + b + ", 0)", BAD, x -> x.filled(0, none, 0));
            refused(some, "last(0, " + b + ")", BAD, x -> x.last(0, none));
            refused(some, "drawn(" + b + ", 1, 1, -1)", BAD, x -> x.drawn(none, 1, 1, -1));
        }
        refused(some, "keep(0, 3)", BAD, x -> x.keep(0, 3));
        refused(some, "keep(0, 49)", BAD, x -> x.keep(0, 49));
    }

    private static void badShapes() {
        sentence("BAD: a SHAPE (0 .. 33554431; not empty). What is answered so changes nothing");
        outside("figure(shape)", 1, WHOLE, (x, shape) -> x.figure(shape));
        outside("block(shape)", 1, WHOLE, (x, shape) -> x.block(shape));
        everywhere("figure(-1)", BAD, x -> x.figure(-1));
        everywhere("block(-1)", BAD, x -> x.block(-1));
        for (int what = 0; what <= 2; what++) {
            int kind = what;
            outside("egg(shape, " + what + ")", 1, WHOLE, (x, shape) -> x.egg(shape, kind));
        }
    }

    private static void badLaws() {
        sentence("BAD: what a FIGURE becomes, THE TAPE, a year, n. What is answered so changes nothing");
        outside("mend(0, 0, v)", 0, 999, (x, v) -> x.mend(0, 0, v));
        outside("mend(0, 1, v)", 0, 9, (x, v) -> x.mend(0, 1, v));
        outside("mend(0, 2, v)", 0, 99, (x, v) -> x.mend(0, 2, v));
        outside("mend(0, what, 1)", 0, 2, (x, what) -> x.mend(0, what, 1));
        outside("feed(letter)", 0, 255, (x, letter) -> x.feed(letter));
        outside("brings(0, year, 0)", 0, 99, (x, year) -> x.brings(0, year, 0));
        outside("brings(0, 0, n)", 0, 99, (x, n) -> x.brings(0, 0, n));
        outside("pass(n)", 1, 99, (x, n) -> x.pass(n));
    }

    private static void badKinds() {
        sentence("BAD: no such what. What is answered so changes nothing");
        outside("of(0, what)", 0, 6, (x, what) -> x.of(0, what));
        outside("size(0, what)", 0, 2, (x, what) -> x.size(0, what));
        outside("turned(0, n)", 0, 3, (x, n) -> x.turned(0, n));
        outside("ways(0, what)", 0, 2, (x, what) -> x.ways(0, what));
        outside("around(0, what)", 0, 1, (x, what) -> x.around(0, what));
        outside("spare(0, what)", 0, 1, (x, what) -> x.spare(0, what));
        outside("when(0, what)", 0, 1, (x, what) -> x.when(0, what));
        outside("smallest(1, what)", 0, 1, (x, what) -> x.smallest(1, what));
        outside("leave(0, what)", 0, 1, (x, what) -> x.leave(0, what));
        outside("leave(1, what)", 0, 1, (x, what) -> x.leave(1, what));
        outside("byTurns(0, what)", 0, 2, (x, what) -> x.byTurns(0, what));
        outside("egg(1, what)", 0, 2, (x, what) -> x.egg(1, what));
        outside("led(what)", 0, 3, (x, what) -> x.led(what));
        outside("count(what)", 0, 5, (x, what) -> x.count(what));
        outside("trace(i)", 0, 23, (x, i) -> x.trace(i));
        outside("body(kind)", 0, 7, (x, kind) -> x.body(kind));
        for (int shelf = 0; shelf <= 5; shelf++) {
            int on = shelf;
            outside("filled(" + shelf + ", 0, what)", 0, 1, (x, what) -> x.filled(on, 0, what));
            outside("taken(" + shelf + ", k)", 0, 7, (x, k) -> x.taken(on, k));
        }
    }

    private static void badRows() {
        sentence("BAD: k, a year, n of a row of cuttings. What is answered so changes nothing");
        for (int block = 0; block <= 1; block++) {
            int of = block;
            everywhere("longest(" + block + ", -2)", BAD, x -> x.longest(of, -2));
            everywhere("longest(" + block + ", MIN)", BAD, x -> x.longest(of, MIN));
            everywhere("richest(" + block + ", 0, -2)", BAD, x -> x.richest(of, 0, -2));
            everywhere("richest(" + block + ", 0, MIN)", BAD, x -> x.richest(of, 0, MIN));
            outside("richest(" + block + ", year, 5)", 0, 99, (x, year) -> x.richest(of, year, 5));
            outside("drawn(" + block + ", 1, n, -1)", 1, 50, (x, n) -> x.drawn(of, 1, n, -1));
        }
    }

    private static void badShelves() {
        sentence("BAD: no such SHELF (0 .. 5), sort, size, body. What is answered so changes nothing");
        outside("figures(shelf, 0, 1)", 0, 5, (x, shelf) -> x.figures(shelf, 0, 1));
        outside("judge(shelf, 0)", 0, 5, (x, shelf) -> x.judge(shelf, 0));
        outside("filled(shelf, 0, 0)", 0, 5, (x, shelf) -> x.filled(shelf, 0, 0));
        outside("last(shelf, 0)", 0, 5, (x, shelf) -> x.last(shelf, 0));
        outside("keep(shelf, -1)", 0, 5, (x, shelf) -> x.keep(shelf, -1));
        outside("keep(shelf, 0)", 0, 5, (x, shelf) -> x.keep(shelf, 0));
        outside("keep(0, body)", -1, 49, (x, body) -> x.keep(0, body));
        outside("row(shelf, 0, 1)", 0, 5, (x, shelf) -> x.row(shelf, 0, 1));
        outside("row(shelf, 0, -1)", 0, 5, (x, shelf) -> x.row(shelf, 0, -1));
        outside("put(shelf, 0, 1)", 0, 5, (x, shelf) -> x.put(shelf, 0, 1));
        outside("taken(shelf, 0)", 0, 5, (x, shelf) -> x.taken(shelf, 0));
        for (int shelf = 0; shelf <= 5; shelf++) {
            int on = shelf;
            outside("figures(" + shelf + ", 0, n)", 1, 10, (x, n) -> x.figures(on, 0, n));
            outside("row(" + shelf + ", sort, 1)", 0, 4, (x, sort) -> x.row(on, sort, 1));
            outside("row(" + shelf + ", sort, -1)", 0, 4, (x, sort) -> x.row(on, sort, -1));
            everywhere("row(" + shelf + ", 2, 61)", BAD, x -> x.row(on, 2, 61));
            everywhere("row(" + shelf + ", 2, MAX)", BAD, x -> x.row(on, 2, MAX));
            everywhere("row(" + shelf + ", 2, -1)", BELOW_ZERO, x -> x.row(on, 2, -1));
            everywhere("row(" + shelf + ", 4, MIN)", BELOW_ZERO, x -> x.row(on, 4, MIN));
            outside("shift(shelf, 0, " + shelf + ", 0, 1)", 0, 5, (x, one) -> x.shift(one, 0, on, 0, 1));
            outside("shift(" + shelf + ", 0, other, 0, 1)", 0, 5, (x, other) -> x.shift(on, 0, other, 0, 1));
        }
        for (int none : NUMBERS_OF_NONE) {
            everywhere("element(" + none + ", 0)", NONE, x -> x.element(none, 0));
        }
        everywhere("element(6, 0)", NONE, x -> x.element(6, 0));
    }

    private static void sameTwo() {
        sentence("BAD (one and the same, too). What is answered so changes nothing");
        for (int ab = 0; ab <= 99; ab += 11) {
            int same = ab;
            everywhere("inside(" + ab + ")", BAD, x -> x.inside(same));
            everywhere("with(0, " + ab + ")", BAD, x -> x.with(0, same));
            everywhere("with(1, " + ab + ")", BAD, x -> x.with(1, same));
            everywhere("smallest(" + ab + ", 1)", BAD, x -> x.smallest(same, 1));
        }
    }

    private static void nothingThere() {
        sentence("NOT, STATE, -11: nothing there yet. What is answered so changes nothing");
        for (int state = Yards.EMPTY; state <= Yards.BARE; state++) {
            refused(state, "back()", STATE, x -> x.back());
            refused(state, "undo()", STATE, x -> x.undo());
            refused(state, "redo()", STATE, x -> x.redo());
            refused(state, "law()", -100, x -> x.law());
            for (int shelf = 0; shelf <= 5; shelf++) {
                int on = shelf;
                refused(state, "put(" + shelf + ", 0, 1)", NOTHING, x -> x.put(on, 0, 1));
                refused(state, "put(" + shelf + ", -1, 1)", NOTHING, x -> x.put(on, -1, 1));
                refused(state, "element(" + shelf + ", 0)", NONE, x -> x.element(on, 0));
                refused(state, "shift(" + shelf + ", -1, 5, -1, -1)", NOTHING, x -> x.shift(on, -1, 5, -1, -1));
                refused(state, "taken(" + shelf + ", 0)", NOTHING, x -> x.taken(on, 0));
                refused(state, "judge(" + shelf + ", 0)", state == Yards.BARE ? NOTHING : BAD, x -> x.judge(on, 0));
                refused(state, "filled(" + shelf + ", 0, 1)", state == Yards.BARE ? NOTHING : BAD, x -> x.filled(on, 0, 1));
                refused(state, "last(" + shelf + ", 0)", state == Yards.BARE ? NOTHING : BAD, x -> x.last(on, 0));
            }
        }
        for (int block = 0; block <= 1; block++) {
            int of = block;
            refused(Yards.BARE, "longest(" + block + ", 0)", NOT, x -> x.longest(of, 0));
            refused(Yards.BARE, "richest(" + block + ", 0, 0)", NOT, x -> x.richest(of, 0, 0));
            refused(Yards.BARE, "spare(" + block + ", 0)", NOT, x -> x.spare(of, 0));
            refused(Yards.BARE, "spare(" + block + ", 1)", NOT, x -> x.spare(of, 1));
            refused(Yards.BARE, "leave(" + block + ", 0)", NOT, x -> x.leave(of, 0));
            refused(Yards.BARE, "leave(" + block + ", 1)", NOT, x -> x.leave(of, 1));
            refused(Yards.BARE, "byTurns(" + block + ", 1)", NOT, x -> x.byTurns(of, 1));
            refused(Yards.BARE, "cut(" + 10 * block + ")", BAD, x -> x.cut(10 * of));
        }
    }

    /** Block 0 is one of a plus, two cells; block 1 a plus. Figures: two, a corner, a plus, one. */
    private static void someThere() {
        sentence("NOT, STATE, -11 to -13 of what is there. What is answered so changes nothing");
        int some = Yards.SOME;
        refused(some, "cut(0): as many cells", STATE, x -> x.cut(0));
        refused(some, "cut(1): more cells", STATE, x -> x.cut(1));
        refused(some, "cut(12): as many cells", STATE, x -> x.cut(12));
        refused(some, "ways(1, 1)", NOT, x -> x.ways(1, 1));
        refused(some, "ways(0, 2)", NOT, x -> x.ways(0, 2));
        refused(some, "ways(12, 2)", NOT, x -> x.ways(12, 2));
        refused(some, "with(0, 3)", NOT, x -> x.with(0, 3));
        refused(some, "with(1, 21)", NOT, x -> x.with(1, 21));
        refused(some, "longest(0, 1)", NOT, x -> x.longest(0, 1));
        refused(some, "longest(1, 3)", NOT, x -> x.longest(1, 3));
        refused(some, "richest(0, 99, 1)", NOT, x -> x.richest(0, 99, 1));
        refused(some, "richest(1, 0, MAX)", NOT, x -> x.richest(1, 0, MAX));
        refused(some, "judge(0, 1): two out of an unknown one, then one", NOT, x -> x.judge(0, 1));
        refused(some, "filled(0, 0, 1)", NOT, x -> x.filled(0, 0, 1));
        refused(some, "pass(94)", STATE, x -> x.pass(94));
        refused(some, "pass(99)", STATE, x -> x.pass(99));
        refused(some, "figures(3, 0, 1): a stone", OTHER, x -> x.figures(3, 0, 1));
        refused(some, "figures(1, 0, 1): shorts", OTHER, x -> x.figures(1, 0, 1));
        refused(some, "judge(2, 0): ints", OTHER, x -> x.judge(2, 0));
        refused(some, "filled(3, 0, 0): a stone", OTHER, x -> x.filled(3, 0, 0));
        refused(some, "last(4, 0): longs", OTHER, x -> x.last(4, 0));
        refused(some, "put(3, 0, 1): a stone", OTHER, x -> x.put(3, 0, 1));
        refused(some, "put(3, -1, 1): a stone", OTHER, x -> x.put(3, -1, 1));
        refused(some, "put(0, 3, 1)", NO_PLACE, x -> x.put(0, 3, 1));
        refused(some, "put(4, -1, 1)", NO_PLACE, x -> x.put(4, -1, 1));
        refused(some, "element(1, 2)", NONE, x -> x.element(1, 2));
        refused(some, "shift(0, 0, 5, 0, 1): nothing there", NOTHING, x -> x.shift(0, 0, 5, 0, 1));
        refused(some, "shift(5, 0, 3, 0, 1): nothing there", NOTHING, x -> x.shift(5, 0, 3, 0, 1));
        refused(some, "shift(3, 0, 3, 0, 0): a stone", OTHER, x -> x.shift(3, 0, 3, 0, 0));
        refused(some, "shift(0, 0, 1, 0, 1): unlike sorts", OTHER, x -> x.shift(0, 0, 1, 0, 1));
        refused(some, "shift(2, 1, 2, 0, 4)", NO_PLACE, x -> x.shift(2, 1, 2, 0, 4));
        refused(some, "shift(2, 0, 2, 1, 4)", NO_PLACE, x -> x.shift(2, 0, 2, 1, 4));
        refused(some, "shift(2, 0, 2, 1, -1)", NO_PLACE, x -> x.shift(2, 0, 2, 1, -1));
        refused(some, "taken(3, 2)", OTHER, x -> x.taken(3, 2));
        refused(some, "taken(0, 0): a row", OTHER, x -> x.taken(0, 0));
        refused(some, "trace(14)", BAD, x -> x.trace(14));
        CutFromOthers undone = Yards.built(some);
        undone.redo();
        due("redo(), none is left", undone.redo(), STATE);
        due("undo()", undone.undo(), 3);
    }

    private static void allTaken() {
        sentence("FULL, STATE: all places taken. What is answered so changes nothing");
        int taken = Yards.TAKEN;
        refused(taken, "figure(1)", FULL, x -> x.figure(1));
        refused(taken, "figure(WHOLE)", FULL, x -> x.figure(WHOLE));
        refused(taken, "block(1)", FULL, x -> x.block(1));
        refused(taken, "block(WHOLE)", FULL, x -> x.block(WHOLE));
        refused(taken, "feed(0)", FULL, x -> x.feed(0));
        refused(taken, "feed(255)", FULL, x -> x.feed(255));
        refused(taken, "body(0)", FULL, x -> x.body(0));
        refused(taken, "body(7)", FULL, x -> x.body(7));
        refused(taken, "pass(1)", STATE, x -> x.pass(1));
        refused(taken, "pass(99)", STATE, x -> x.pass(99));
        refused(taken, "figures(0, 0, 1): ints", 0, x -> x.figures(0, 0, 1));
        refused(taken, "figures(4, 0, 1): bytes", OTHER, x -> x.figures(4, 0, 1));
        refused(taken, "figures(3, 0, 10): a stone", OTHER, x -> x.figures(3, 0, 10));
        refused(taken, "cut(39): one cell", STATE, x -> x.cut(39));
        refused(taken, "cut(34): as many cells", STATE, x -> x.cut(34));
        refused(taken, "put(1, 60, 1)", NO_PLACE, x -> x.put(1, 60, 1));
        refused(taken, "put(2, 0, 1)", NO_PLACE, x -> x.put(2, 0, 1));
        refused(taken, "element(4, 60)", NONE, x -> x.element(4, 60));
        refused(taken, "shift(4, 1, 4, 0, 60)", NO_PLACE, x -> x.shift(4, 1, 4, 0, 60));
        refused(taken, "shift(2, 0, 4, 0, 1)", NO_PLACE, x -> x.shift(2, 0, 4, 0, 1));
        refused(taken, "shift(4, 0, 2, 0, 1)", NO_PLACE, x -> x.shift(4, 0, 2, 0, 1));
        refused(taken, "keep(0, 50)", BAD, x -> x.keep(0, 50));
        refused(taken, "with(3, 98): one cell", NOT, x -> x.with(3, 98));
        refused(taken, "longest(0, 10)", NOT, x -> x.longest(0, 10));
        refused(taken, "leave(3, 0): one cell", NOT, x -> x.leave(3, 0));
        refused(taken, "byTurns(3, 1): one cell", NOT, x -> x.byTurns(3, 1));
        refused(taken, "judge(2, 3): none told", NOT, x -> x.judge(2, 3));
        refused(taken, "filled(2, 0, 1): none told", NOT, x -> x.filled(2, 0, 1));
    }

    private static void namedFirst() {
        sentence("Answers, of several the one named first: BAD; NOT; FULL; STATE; -11 to -14");
        int bare = Yards.BARE;
        int some = Yards.SOME;
        int taken = Yards.TAKEN;
        refused(taken, "figure(0): BAD, FULL", BAD, x -> x.figure(0));
        refused(taken, "block(0): BAD, FULL", BAD, x -> x.block(0));
        refused(taken, "feed(256): BAD, FULL", BAD, x -> x.feed(256));
        refused(taken, "body(8): BAD, FULL", BAD, x -> x.body(8));
        refused(taken, "pass(100): BAD, STATE", BAD, x -> x.pass(100));
        refused(taken, "pass(0): BAD, and no STATE", BAD, x -> x.pass(0));
        refused(bare, "spare(0, 2): BAD, NOT", BAD, x -> x.spare(0, 2));
        refused(bare, "spare(2, 0): BAD, NOT", BAD, x -> x.spare(2, 0));
        refused(bare, "leave(1, 2): BAD, NOT", BAD, x -> x.leave(1, 2));
        refused(bare, "byTurns(1, 3): BAD, NOT", BAD, x -> x.byTurns(1, 3));
        refused(bare, "longest(1, -2): BAD, NOT", BAD, x -> x.longest(1, -2));
        refused(bare, "richest(1, 100, 0): BAD, NOT", BAD, x -> x.richest(1, 100, 0));
        refused(some, "with(0, 0): BAD, NOT", BAD, x -> x.with(0, 0));
        refused(some, "with(0, 22): BAD, NOT", BAD, x -> x.with(0, 22));
        refused(some, "ways(2, 3): BAD, NOT", BAD, x -> x.ways(2, 3));
        refused(some, "cut(4): BAD, STATE", BAD, x -> x.cut(4));
        refused(some, "figures(3, 0, 0): BAD, -12", BAD, x -> x.figures(3, 0, 0));
        refused(some, "judge(5, 2): BAD, -11", BAD, x -> x.judge(5, 2));
        refused(some, "judge(3, 2): BAD, -12", BAD, x -> x.judge(3, 2));
        refused(some, "filled(5, 0, 2): BAD, -11", BAD, x -> x.filled(5, 0, 2));
        refused(some, "filled(3, 0, 2): BAD, -12", BAD, x -> x.filled(3, 0, 2));
        refused(some, "last(5, 2): BAD, -11", BAD, x -> x.last(5, 2));
        refused(some, "row(0, 5, -1): BAD, -14", BAD, x -> x.row(0, 5, -1));
        refused(some, "row(6, 0, -1): BAD, -14", BAD, x -> x.row(6, 0, -1));
        refused(some, "put(6, -1, 1): BAD, -13", BAD, x -> x.put(6, -1, 1));
        refused(some, "put(5, -1, 1): -11, -13", NOTHING, x -> x.put(5, -1, 1));
        refused(some, "put(3, -1, 1): -12, -13", OTHER, x -> x.put(3, -1, 1));
        refused(some, "shift(6, 0, 5, 0, 1): BAD, -11", BAD, x -> x.shift(6, 0, 5, 0, 1));
        refused(some, "shift(5, 0, 6, 0, 1): BAD, -11", BAD, x -> x.shift(5, 0, 6, 0, 1));
        refused(some, "shift(3, 0, 6, 0, 1): BAD, -12", BAD, x -> x.shift(3, 0, 6, 0, 1));
        refused(some, "shift(3, -1, 5, 0, 1): -11, -12, -13", NOTHING, x -> x.shift(3, -1, 5, 0, 1));
        refused(some, "shift(5, 0, 3, -1, 1): -11, -12, -13", NOTHING, x -> x.shift(5, 0, 3, -1, 1));
        refused(some, "shift(0, 0, 1, 9, 1): -12, -13", OTHER, x -> x.shift(0, 0, 1, 9, 1));
        refused(some, "shift(0, 9, 3, 0, 1): -12, -13", OTHER, x -> x.shift(0, 9, 3, 0, 1));
        refused(some, "taken(5, 8): BAD, -11", BAD, x -> x.taken(5, 8));
        refused(some, "taken(3, 8): BAD, -12", BAD, x -> x.taken(3, 8));
        refused(some, "taken(0, -1): BAD, -12", BAD, x -> x.taken(0, -1));
    }

    private static void actsOfNone() {
        sentence("Promise 37: 0, and no TRACE then: all else is as it was");
        int[][] none = {{-1, 0}, {50, 0}, {MIN, 0}, {MAX, 3}, {0, -1}, {0, 4}, {2, MIN}, {2, MAX}, {-1, -1}, {50, 4}};
        for (int state = 0; state < Yards.STATES; state++) {
            for (int[] no : none) {
                Call asked = x -> x.act(no[0], no[1], 5);
                String call = "act(" + no[0] + ", " + no[1] + ", 5)";
                due(call + ", " + Yards.NAMES[state], asked.on(Yards.built(state)), 0);
                same(state, call, asked, Yards.TRACE);
                CutFromOthers x = Yards.built(state);
                asked.on(x);
                boolean noTrace = Yards.told(x, Yards.TRACE).equals(TOLD.get(Yards.EMPTY).get(Yards.TRACE));
                due("no trace by " + call + ", " + Yards.NAMES[state], noTrace ? 1 : 0, 1);
            }
        }
        due("act(3, 0, 5), some of all", Yards.built(Yards.SOME).act(3, 0, 5), 0);
    }

    /** The byte that is put behind THE TAPE is the fault, or the text ends too early. */
    private static void faults() {
        sentence("Promise 8: -100 less its FAULT; THE TAPE is empty then: all else is as it was");
        int[] letters = {')', '+', 'w', 255};
        int[] answers = {-103, -104, -103, -103};
        for (int i = 0; i < letters.length; i++) {
            int letter = letters[i];
            CutFromOthers x = Yards.built(Yards.SOME);
            x.feed(letter);
            due("law() of w*2 and byte " + letter, x.law(), answers[i]);
            due("the tape", x.count(2), 0);
            due("by the law that was", x.brings(0, 7, 3), 250 + 7 + 30);
            CutFromOthers fed = Yards.built(Yards.SOME);
            due("the tape, fed once more", feedAll(fed, letter), 4);
            for (int part = 1; part < Yards.PARTS; part++) {
                if (part != 3) {
                    CutFromOthers y = Yards.built(Yards.SOME);
                    y.feed(letter);
                    y.law();
                    boolean as = Yards.told(y, part).equals(TOLD.get(Yards.SOME).get(part));
                    due("nothing else has changed (part " + part + ") by byte " + letter, as ? 1 : 0, 1);
                }
            }
        }
    }

    private static int feedAll(CutFromOthers x, int letter) {
        x.feed(letter);
        x.law();
        int bytes = 0;
        for (int i = 0; i < 4; i++) {
            bytes = x.feed('1');
        }
        return bytes;
    }

    private static void noneCame() {
        sentence("Promise 3: how many came: none. What is answered so changes nothing");
        refused(Yards.EMPTY, "figures(0, 0, 10): it is missing", 0, x -> x.figures(0, 0, 10));
        refused(Yards.BARE, "figures(5, -1, 1): it is missing", 0, x -> x.figures(5, -1, 1));
        refused(Yards.SOME, "figures(2, 2, 10): shape 0", 0, x -> x.figures(2, 2, 10));
        refused(Yards.SOME, "figures(2, 3, 1): within a two", 0, x -> x.figures(2, 3, 1));
        refused(Yards.SOME, "figures(2, 4, 1): behind its end", 0, x -> x.figures(2, 4, 1));
        refused(Yards.SOME, "figures(2, MAX, 1): behind its end", 0, x -> x.figures(2, MAX, 1));
        refused(Yards.SOME, "figures(5, 0, 1): it is missing", 0, x -> x.figures(5, 0, 1));
        refused(Yards.TAKEN, "figures(0, 0, 1): FULL", 0, x -> x.figures(0, 0, 1));
    }

    private static void questions() {
        sentence("Calls that only ask change nothing");
        for (int state = 0; state < Yards.STATES; state++) {
            for (int block = 0; block <= 1; block++) {
                int of = block;
                same(state, "asking of rows", x -> x.longest(of, -1) + x.richest(of, 5, -1) + x.with(of, 1) + x.spare(of, 0)
                    + x.leave(of, 0) + x.byTurns(of, 2) + x.drawn(of, 3, 50, -1), Yards.PARTS);
                same(state, "asking of told", x -> x.judge(0, of) + x.filled(0, of, 0) + x.filled(0, of, 1) + x.last(0, of)
                    + x.judge(4, of) + x.filled(4, of, 0) + x.last(2, of), Yards.PARTS);
                same(state, "asking of shapes", x -> x.ways(10 * of, 0) + x.ways(10 * of, 1) + x.size(of, 1) + x.turned(of, 3)
                    + x.inside(1) + x.around(of, 0) + x.common(0) + x.smallest(1, 1) + x.egg(WHOLE, 1) + x.egg(7, 0), Yards.PARTS);
                same(state, "asking of all else", x -> x.of(of, 4) + x.brings(of, 7, 7) + x.when(of, 0) + x.led(2) + x.trace(of)
                    + x.element(of, 0) + x.taken(3, 0) + x.count(of), Yards.PARTS);
            }
        }
    }
}
