/** The edges of promises 1 to 6: a new object, FIGURES and BLOCKS as they come, what is mended of them. */
public final class FiguresEdgesTest extends Sentences {
    public static void main(String[] args) {
        constants();
        newObject();
        ownMemory();
        lastCall();
        shapesOfFigures();
        figuresAsTheyCome();
        traitsAtFirst();
        figuresOfRow();
        rowEnds();
        rowNotSo();
        rowMeetsFull();
        figuresRefused();
        blocksAsTheyCome();
        mended();
        of();
        end();
    }

    private static void constants() {
        sentence("The public face: BAD = -1, NOT = -2, FULL = -3, STATE = -5, VOID = -2000000000");
        due("BAD", CutFromOthers.BAD, -1);
        due("NOT", CutFromOthers.NOT, -2);
        due("FULL", CutFromOthers.FULL, -3);
        due("STATE", CutFromOthers.STATE, -5);
        due("VOID", CutFromOthers.VOID, -2000000000);
    }

    private static void newObject() {
        sentence("Promise 1: A yard without stones");
        CutFromOthers x = new CutFromOthers();
        for (int what = 0; what <= 5; what++) {
            due("count(" + what + ")", x.count(what), 0);
        }
        for (int what = 0; what <= 3; what++) {
            due("led(" + what + ")", x.led(what), 0);
        }
        for (int what = 0; what <= 5; what++) {
            due("of(0, " + what + ")", x.of(0, what), BAD);
        }
        due("of(0, 6)", x.of(0, 6), 0);
        for (int shelf = 0; shelf <= 5; shelf++) {
            due("taken(" + shelf + ", 0)", x.taken(shelf, 0), NOTHING);
            due("put(" + shelf + ", 0, 1)", x.put(shelf, 0, 1), NOTHING);
        }
        due("trace(0)", x.trace(0), BAD);
        due("back()", x.back(), STATE);
        due("undo()", x.undo(), STATE);
        due("redo()", x.redo(), STATE);
        due("law()", x.law(), -100);
    }

    private static void ownMemory() {
        sentence("All memory is the class's own");
        CutFromOthers one = new CutFromOthers();
        CutFromOthers other = new CutFromOthers();
        one.figure(TWO);
        one.block(FIVE);
        law(one, "7");
        one.feed('w');
        one.mend(0, 0, 5);
        one.cut(0);
        one.pass(3);
        one.image();
        one.body(1);
        one.act(0, 0, 1);
        one.row(0, 0, 1);
        for (int what = 0; what <= 5; what++) {
            due("count(" + what + ") of another object", other.count(what), 0);
        }
        due("led(0) of another object", other.led(0), 0);
        due("led(3) of another object", other.led(3), 0);
        due("back() of another object", other.back(), STATE);
        due("undo() of another object", other.undo(), STATE);
        due("taken(0, 0) of another object", other.taken(0, 0), NOTHING);
        due("trace(0) of another object", other.trace(0), BAD);
        other.figure(THREE);
        due("brings by another object's law", other.brings(0, 0, 0), 100);
        due("of(0, 3), behind the other one's figure", one.of(0, 3), TWO);
    }

    private static void lastCall() {
        sentence("An object is used for at most 512 calls after it has been made");
        CutFromOthers x = cutting(new int[] {FIVE}, ONE, TWO, THREE);
        for (int call = 5; call <= MOST_CALLS; call++) {
            due("longest(0, -1) as call " + call, x.longest(0, -1), 3);
        }
    }

    private static void shapesOfFigures() {
        sentence("Terms 1: A SHAPE is a set of cells of a square of 5 by 5 (bits 0 .. 33554431; not empty)");
        CutFromOthers x = new CutFromOthers();
        dueOfAll("figure", BAD, x::figure, 0, -1, WHOLE + 1, WHOLE + 2, MIN, MAX, -WHOLE);
        dueOfAll("block", BAD, x::block, 0, -1, WHOLE + 1, WHOLE + 2, MIN, MAX, -WHOLE);
        due("figures", x.count(0), 0);
        due("blocks", x.count(1), 0);
        due("figure of the first cell", x.figure(1), 0);
        due("figure of all cells", x.figure(WHOLE), 1);
        due("figure of the last cell", x.figure(1 << 24), 2);
        due("figure of all cells but the first", x.figure(WHOLE - 1), 3);
        due("block of the first cell", x.block(1), 0);
        due("block of all cells", x.block(WHOLE), 1);
        due("block of the last cell", x.block(1 << 24), 2);
        int[] cells = {1, 25, 1, 24};
        for (int f = 0; f < 4; f++) {
            due("size(" + f + ", 0)", x.size(f, 0), cells[f]);
        }
        for (int bit = 0; bit < 25; bit++) {
            due("cells of bit " + bit, x.egg(1 << bit, 2), 1);
        }
    }

    private static void figuresAsTheyCome() {
        sentence("Terms 1, promise 2: FIGURES 0 .. 9, as they come: its number. BAD, FULL: 10");
        CutFromOthers x = new CutFromOthers();
        for (int f = 0; f <= 9; f++) {
            due("count(0)", x.count(0), f);
            due("of(" + f + ", 3) ahead of it", x.of(f, 3), BAD);
            due("figure " + f, x.figure(2 * f + 1), f);
        }
        due("the eleventh", x.figure(1), FULL);
        due("the eleventh, once more", x.figure(WHOLE), FULL);
        due("the eleventh that is no shape", x.figure(0), BAD);
        due("the eleventh that is no shape", x.figure(WHOLE + 1), BAD);
        due("count(0)", x.count(0), 10);
        for (int f = 0; f <= 9; f++) {
            due("of(" + f + ", 3)", x.of(f, 3), 2 * f + 1);
        }
    }

    private static void traitsAtFirst() {
        sentence("Terms 1: WORTH (100 at first), FADES (0 at first), YEAR (0 at first)");
        CutFromOthers x = new CutFromOthers();
        x.figure(ONE);
        x.mend(0, 0, 7);
        x.mend(0, 1, 7);
        x.mend(0, 2, 7);
        for (int f = 1; f <= 9; f++) {
            x.figure(ONE);
            due("of(" + f + ", 0)", x.of(f, 0), 100);
            due("of(" + f + ", 1)", x.of(f, 1), 0);
            due("of(" + f + ", 2)", x.of(f, 2), 0);
        }
        due("the other one", x.of(0, 0) * 100 + x.of(0, 1) * 10 + x.of(0, 2), 777);
    }

    private static void figuresOfRow() {
        sentence("Terms 5: FIGURES FROM A ROW of ints, from a place on: by twos SHAPE, WORTH: n of them");
        CutFromOthers x = new CutFromOthers();
        tell(x, 0, 2, 1, 0, WHOLE, 999, TWO, 3, THREE, 4);
        due("figures(0, 0, 1)", x.figures(0, 0, 1), 1);
        due("figures(0, 2, 2)", x.figures(0, 2, 2), 2);
        due("count(0)", x.count(0), 3);
        due("the least shape", x.of(0, 3), 1);
        due("the least worth", x.of(0, 0), 0);
        due("the greatest shape", x.of(1, 3), WHOLE);
        due("the greatest worth", x.of(1, 0), 999);
        due("the last two asked for", x.of(2, 0), 3);
        due("fades", x.of(1, 1), 0);
        due("year", x.of(1, 2), 0);
        due("a worth from a row is no change", x.count(3), 0);
        CutFromOthers last = new CutFromOthers();
        last.row(5, 2, 60);
        last.put(5, 58, CORNER);
        last.put(5, 59, 8);
        due("figures(5, 58, 1) of 60", last.figures(5, 58, 1), 1);
        due("its shape", last.of(0, 3), CORNER);
        due("its worth", last.of(0, 0), 8);
        due("the row stays", last.element(5, 58), CORNER);
    }

    private static void rowEnds() {
        sentence("Terms 5: it ends where the row is missing, ends (within a two, too)");
        CutFromOthers x = new CutFromOthers();
        dueOfAll("a row that is missing, from", 0, i -> x.figures(0, i, 1), 0, 1, 60, MAX, -1, MIN);
        x.row(0, 2, 0);
        dueOfAll("a row of none, from", 0, i -> x.figures(0, i, 10), 0, 1, 60, MAX, -1, MIN);
        tell(x, 0, 2, TWO);
        due("within the first two", x.figures(0, 0, 1), 0);
        tell(x, 0, 2, TWO, 1, THREE);
        dueOfAll("behind its last two, from", 0, i -> x.figures(0, i, 10), 2, 3, 4, MAX - 1, MAX);
        dueOfAll("ahead of it, from", 0, i -> x.figures(0, i, 10), -1, -2, MIN, MIN + 1);
        due("count(0)", x.count(0), 0);
        due("within the second two", x.figures(0, 0, 2), 1);
        tell(x, 0, 2, TWO, 1, THREE, 2);
        due("behind the second two", x.figures(0, 0, 3), 2);
        due("the last two", x.figures(0, 2, 10), 1);
        due("count(0)", x.count(0), 4);
        x.keep(0, -1);
        due("a row that is there no more", x.figures(0, 0, 1), 0);
    }

    private static void rowNotSo() {
        sentence("Terms 5: it ends where one is not so: those ahead came");
        CutFromOthers x = new CutFromOthers();
        int[] noShapes = {0, -1, WHOLE + 1, MIN, MAX};
        for (int shape : noShapes) {
            tell(x, 0, 2, shape, 5, TWO, 5);
            due("shape " + shape + " at first", x.figures(0, 0, 2), 0);
        }
        int[] noWorths = {-1, 1000, MIN, MAX};
        for (int worth : noWorths) {
            tell(x, 0, 2, TWO, worth, TWO, 5);
            due("worth " + worth + " at first", x.figures(0, 0, 2), 0);
        }
        due("count(0)", x.count(0), 0);
        tell(x, 0, 2, TWO, 999, THREE, 1000, FOUR, 7);
        due("worth 1000 behind one", x.figures(0, 0, 3), 1);
        tell(x, 0, 2, TWO, 0, 0, 5, FOUR, 7);
        due("shape 0 behind one", x.figures(0, 0, 3), 1);
        due("count(0)", x.count(0), 2);
        due("of(0, 0)", x.of(0, 0), 999);
        due("of(1, 0)", x.of(1, 0), 0);
    }

    private static void rowMeetsFull() {
        sentence("Terms 5: it ends where FIGURES are FULL: those ahead came");
        CutFromOthers x = new CutFromOthers();
        x.row(0, 2, 22);
        for (int i = 0; i < 22; i++) {
            x.put(0, i, i + 1);
        }
        due("ten at once", x.figures(0, 0, 10), 10);
        due("one more", x.figures(0, 0, 1), 0);
        due("one more that is no shape", x.figures(1, 0, 1), 0);
        due("count(0)", x.count(0), 10);
        due("of(9, 3)", x.of(9, 3), 19);
        due("of(9, 0)", x.of(9, 0), 20);
        CutFromOthers nine = with(1, 2, 3, 4, 5, 6, 7, 8, 9);
        tell(nine, 0, 2, TWO, 1, THREE, 2);
        due("the tenth, not the eleventh", nine.figures(0, 0, 2), 1);
        due("of(9, 3)", nine.of(9, 3), TWO);
    }

    private static void figuresRefused() {
        sentence("Promise 3: n (1 .. 10) of them. BAD, -12 (no ROW of ints; a SHELF that holds nothing is missing)");
        CutFromOthers x = new CutFromOthers();
        tell(x, 0, 2, TWO, 1);
        x.row(1, 3, 4);
        x.body(0);
        x.keep(2, 0);
        dueOfAll("n", BAD, n -> x.figures(0, 0, n), 0, -1, 11, MIN, MAX);
        dueOfAll("n, of longs", BAD, n -> x.figures(1, 0, n), 0, 11);
        dueOfAll("n, of a stone", BAD, n -> x.figures(2, 0, n), 0, 11);
        dueOfAll("n, of nothing", BAD, n -> x.figures(3, 0, n), 0, 11);
        dueOfAll("shelf", BAD, s -> x.figures(s, 0, 1), -1, 6, MIN, MAX);
        for (int sort = 0; sort <= 4; sort++) {
            x.row(4, sort, 6);
            due("a row of sort " + sort, x.figures(4, 0, 1), sort == 2 ? 0 : OTHER);
            due("a row of sort " + sort + ", behind its end", x.figures(4, 60, 1), sort == 2 ? 0 : OTHER);
            x.row(4, sort, 0);
            due("a row of none of sort " + sort, x.figures(4, 0, 10), sort == 2 ? 0 : OTHER);
        }
        due("a stone", x.figures(2, 0, 1), OTHER);
        due("a stone, from -1", x.figures(2, -1, 10), OTHER);
        due("nothing", x.figures(3, 0, 1), 0);
        due("the last shelf", x.figures(5, 0, 1), 0);
        due("count(0)", x.count(0), 0);
        due("the first shelf, n 1", x.figures(0, 0, 1), 1);
        due("the first shelf, n 10", x.figures(0, 0, 10), 1);
        for (int f = 2; f < 10; f++) {
            x.figure(ONE);
        }
        due("longs, when FIGURES are FULL", x.figures(1, 0, 1), OTHER);
        due("ints, when FIGURES are FULL", x.figures(0, 0, 1), 0);
    }

    private static void blocksAsTheyCome() {
        sentence("Terms 1, promise 4: BLOCKS 0 .. 5, as they come: its number. BAD, FULL: 6");
        CutFromOthers x = new CutFromOthers();
        for (int b = 0; b <= 5; b++) {
            due("count(1)", x.count(1), b);
            due("of(" + b + ", 4) ahead of it", x.of(b, 4), BAD);
            due("block " + b, x.block(3 * b + 1), b);
        }
        due("the seventh", x.block(1), FULL);
        due("the seventh, once more", x.block(WHOLE), FULL);
        due("the seventh that is no shape", x.block(0), BAD);
        due("the seventh that is no shape", x.block(WHOLE + 1), BAD);
        due("count(1)", x.count(1), 6);
        for (int b = 0; b <= 5; b++) {
            due("of(" + b + ", 4)", x.of(b, 4), 3 * b + 1);
            due("of(" + b + ", 5)", x.of(b, 5), 0);
        }
        due("figures", x.count(0), 0);
    }

    private static void mended() {
        sentence("Promise 5: WORTH (0 .. 999), FADES (0 .. 9), YEAR (0 .. 99) becomes v: what it was. BAD");
        CutFromOthers x = with(ONE, TWO);
        int[] most = {999, 9, 99};
        int[] first = {100, 0, 0};
        for (int what = 0; what <= 2; what++) {
            int kind = what;
            due("what " + what + ", the greatest", x.mend(1, what, most[what]), first[what]);
            dueOfAll("what " + what, BAD, v -> x.mend(1, kind, v), -1, most[what] + 1, MIN, MAX);
            due("what " + what + " is", x.of(1, what), most[what]);
            due("what " + what + ", the least", x.mend(1, what, 0), most[what]);
            due("what " + what + " is", x.of(1, what), 0);
            due("what " + what + ", once more", x.mend(1, what, 0), 0);
            due("what " + what + " of the other one", x.of(0, what), first[what]);
        }
        dueOfAll("what", BAD, what -> x.mend(0, what, 1), -1, 3, 4, MIN, MAX);
        dueOfAll("number", BAD, number -> x.mend(number, 0, 1), -1, 2, 9, 10, MIN, MAX);
        due("changes", x.count(3), 6);
        CutFromOthers ten = with(1, 2, 3, 4, 5, 6, 7, 8, 9, 10);
        due("the tenth", ten.mend(9, 2, 99), 0);
        due("the tenth is", ten.of(9, 2), 99);
        dueOfAll("number, of ten", BAD, number -> ten.mend(number, 0, 1), -1, 10);
    }

    private static void of() {
        sentence("Promise 6: of(number, what): what 0 to 3 of a FIGURE, 4 and 5 of a BLOCK, number 0: 6 NOW. BAD");
        CutFromOthers x = with(1, 2, 3, 4, 5, 6, 7, 8, 9, 1 << 24);
        x.block(PLUS);
        x.block(FIVE << 20);
        for (int what = 0; what <= 3; what++) {
            int kind = what;
            dueOfAll("what " + what + ", number", BAD, number -> x.of(number, kind), -1, 10, MIN, MAX);
        }
        for (int what = 4; what <= 5; what++) {
            int kind = what;
            dueOfAll("what " + what + ", number", BAD, number -> x.of(number, kind), -1, 2, 6, MIN, MAX);
        }
        dueOfAll("now, number", BAD, number -> x.of(number, 6), -1, 1, MIN, MAX);
        dueOfAll("what", BAD, what -> x.of(0, what), -1, 7, MIN, MAX);
        due("the last figure as it was told, not moved", x.of(9, 3), 1 << 24);
        due("the last block as it was told, not moved", x.of(1, 4), FIVE << 20);
        due("cut of it", x.of(1, 5), 0);
        due("now", x.of(0, 6), 0);
        x.cut(10);
        due("what is left of it", x.of(1, 4), 1 << 20);
        due("cut of it", x.of(1, 5), 1);
        due("left of the other one", x.of(0, 4), PLUS);
        due("cut of the other one", x.of(0, 5), 0);
        x.pass(99);
        due("now", x.of(0, 6), 99);
    }
}
