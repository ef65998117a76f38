import java.util.ArrayList;
import java.util.List;

/** What the document names as an answer's ground changes it, and nothing else does: what parts of a yard leave alone. */
public final class GroundsTest extends Sentences {
    private static final int[] SQUARE = {WHOLE};
    private static final String[] GROUPS = {
        "shapes", "rows", "told", "brought in a year", "richest", "left and led", "traits", "acts", "shelves", "counts", "trace"
    };
    private static final int SHAPES = 0, ROWS = 1, TOLD = 2, BRINGS = 3, RICHEST = 4, DEEDS = 5, TRAITS = 6, ACTS = 7, SHELVES = 8,
        COUNTS = 9, TRACE = 10;

    public static void main(String[] args) {
        whenCutFirst();
        richestFromItsYear();
        bringsInItsYear();
        heldByItself();
        broughtStays();
        onlyWhatIsLeft();
        leftHoweverItLies();
        spareOfTen();
        smallestOfTheSquare();
        commonOfAll();
        laterFigures();
        figuresLeaveAlone();
        deedsLeaveAlone();
        lawsLeaveAlone();
        shelvesLeaveAlone();
        end();
    }

    private static void whenCutFirst() {
        sentence("Terms 2: WHEN: in which year (0 .. 99) a FIGURE brings most, cut first: not from NOW on, nor behind what was cut");
        CutFromOthers x = cutting(SQUARE, FOUR, THREE, TWO);
        law(x, "n?900;99-a");
        x.mend(2, 2, 10);
        x.cut(0);
        x.cut(1);
        x.pass(60);
        due("cut first", x.when(2, 1), 99);
        due("a year that is gone", x.when(2, 0), 10);
        due("the first year", x.when(0, 0), 0);
        due("it, now", x.cut(2), 900);
        due("cut first, as before", x.when(2, 1), 99);
        due("the year, as before", x.when(2, 0), 10);
    }

    private static void richestFromItsYear() {
        sentence("Terms 2: RICHEST: from a year on, n how many were cut ahead in that row: not NOW, nor what was cut of the BLOCK");
        CutFromOthers x = cutting(new int[] {FIVE, THREE}, FOUR, THREE, TWO, ONE);
        law(x, "n?500-a;7-a");
        x.pass(2);
        x.cut(0);
        x.cut(1);
        due("of what is left, from year 0 on", x.richest(0, 0, -1), 7 + 499);
        due("of a new block that is like it", x.richest(1, 0, -1), 7 + 499);
        due("from year 5 on", x.richest(0, 5, -1), 2 + 494);
        due("its first", x.richest(0, 0, 0), 2);
        due("in deed two were cut ahead", x.cut(2), 498);
    }

    private static void bringsInItsYear() {
        sentence("Promise 9: What a FIGURE brings in a year, n cut ahead: not NOW, nor what was cut");
        CutFromOthers x = cutting(SQUARE, TWO, ONE);
        law(x, "a*100+n");
        x.cut(0);
        x.cut(1);
        x.pass(7);
        due("year 0, none ahead", x.brings(0, 0, 0), 0);
        due("year 3, five ahead", x.brings(1, 3, 5), 305);
        due("year 99, 99 ahead", x.brings(1, 99, 99), 9999);
        due("year 98, 99 ahead", x.brings(1, 98, 99), 9899);
    }

    private static void heldByItself() {
        sentence("Terms 1: what a FIGURE brings in a year (held within 0 .. 9999): each by itself, ahead of any sum or choice");
        CutFromOthers x = cutting(SQUARE, FOUR, THREE, TWO);
        law(x, "n*100-50");
        due("0, 50 and 150", x.richest(0, 0, -1), 200);
        due("the first, which brings none", x.richest(0, 0, 0), 0);
        due("the last", x.richest(0, 0, 2), 2);
        due("the first in deed", x.cut(0), 0);
        due("the second in deed", x.cut(1), 50);
        due("together", x.led(2), 50);
        law(x, "9000+n*999");
        due("9000 out of what is left", x.richest(0, 0, -1), 9000);
        x.block(WHOLE);
        due("9000, 9999 and 9999", x.richest(1, 0, -1), 28998);
        law(x, "a-200");
        due("none in any year", x.when(0, 1), 0);
        due("the first of like years", x.when(0, 0), 0);
        due("no row brings any", x.richest(1, 0, -1), 0);
        due("so the shortest", x.richest(1, 0, 0), NOT);
        law(x, "9990+a");
        due("the most in a year", x.when(0, 1), 9999);
        due("the first of like years", x.when(0, 0), 9);
    }

    private static void broughtStays() {
        sentence("Terms 4: it brings what THE LAW gives NOW: neither a later LAW, year nor CHANGE alters what it brought");
        CutFromOthers x = cutting(SQUARE, THREE, TWO, ONE);
        x.mend(0, 0, 300);
        x.mend(0, 1, 2);
        due("cut in year 0", x.cut(0), 300);
        x.pass(10);
        due("ten years on", x.led(2), 300);
        x.mend(0, 0, 500);
        due("another worth", x.led(2), 300);
        law(x, "w*2");
        due("another law", x.led(2), 300);
        x.undo();
        due("undone", x.led(2), 300);
        due("by the law that is", x.cut(1), 200);
        due("together", x.led(2), 500);
        x.mend(1, 0, 0);
        x.undo();
        x.redo();
        due("done again", x.led(2), 500);
    }

    private static List<Integer> ofBlock(CutFromOthers x, int block) {
        List<Integer> all = new ArrayList<>();
        for (int k = -1; k <= 5; k++) {
            all.add(x.longest(block, k));
            all.add(x.richest(block, 9, k));
        }
        for (int what = 0; what <= 1; what++) {
            all.add(x.spare(block, what));
            all.add(x.leave(block, what));
            all.add(x.byTurns(block, what));
        }
        all.add(x.byTurns(block, 2));
        for (int f = 0; f <= 4; f++) {
            all.add(x.with(block, 10 * f + (f + 1) % 5));
            all.add(x.ways(10 * block + f, 0));
            all.add(x.ways(10 * block + f, 2));
            all.add(x.drawn(block, 77, 20, f));
        }
        all.add(x.drawn(block, 77, 20, -1));
        all.add(x.judge(0, block));
        all.add(x.filled(0, block, 0));
        all.add(x.filled(0, block, 1));
        all.add(x.last(0, block));
        return all;
    }

    /** Five FIGURES that bring unlike numbers by year and by place, and a ROW with unknown ones on SHELF 0. */
    private static CutFromOthers five(int... blocks) {
        CutFromOthers x = cutting(blocks, TEE, CORNER, THREE, TWO, ONE);
        law(x, "c*20+n*7-a*k");
        tell(x, 0, 0, -1, 3, -1);
        return x;
    }

    private static void onlyWhatIsLeft() {
        sentence("Terms 2: A ROW OF CUTTINGS from a BLOCK: the first CUT OUT of what is LEFT, whatever it was and how often it was cut");
        CutFromOthers x = five(WHOLE, 1103, 1103);
        x.cut(0);
        x.block(x.of(0, 4));
        due("left of the square", x.of(0, 4), TEE);
        due("a block that is made as the first is left", ofBlock(x, 0).equals(ofBlock(x, 3)) ? 1 : 0, 1);
        x.cut(11);
        x.block(x.of(1, 4));
        due("a block that is made as the second is left", ofBlock(x, 1).equals(ofBlock(x, 4)) ? 1 : 0, 1);
        due("a like block, of which nothing was cut", ofBlock(x, 1).equals(ofBlock(x, 2)) ? 1 : 0, 0);
        x.image();
        x.cut(1);
        x.back();
        due("as it was laid back", ofBlock(x, 0).equals(ofBlock(x, 3)) ? 1 : 0, 1);
    }

    private static void leftHoweverItLies() {
        sentence("Terms 1: FITS by a TURN and a PLACE: rows out of a SHAPE are those out of it moved and turned");
        int ring = 7 | 5 << 5 | 7 << 10;
        int[] lying = {ring, ring << 12, TEE, TEE << 17, 1 | 3 << 5 | 1 << 10, (2 | 3 << 5 | 2 << 10) << 6};
        CutFromOthers x = five(lying);
        due("a ring, moved", ofBlock(x, 0).equals(ofBlock(x, 1)) ? 1 : 0, 1);
        for (int b = 3; b <= 5; b++) {
            due("block " + b + ", a T", ofBlock(x, 2).equals(ofBlock(x, b)) ? 1 : 0, 1);
        }
        int[] figures = {TEE << 17, 1 | 3 << 5 | 1 << 10, CORNER << 12, ONE << 24};
        CutFromOthers y = with(figures);
        due("out of one that lies otherwise", y.around(1, 1), 12);
        due("and out of it", y.around(0, 1), 12);
        due("common", y.common(3), 12);
    }

    private static void spareOfTen() {
        sentence("Terms 2: SPARE: without which FIGURE (0 .. 9) the LONGEST is shortest");
        CutFromOthers x = cutting(SQUARE, ONE, ONE, ONE, ONE, ONE, ONE, ONE, ONE, ONE, TWO);
        due("the tenth", x.spare(0, 0), 9);
        due("how long without it", x.spare(0, 1), 1);
        due("with it", x.longest(0, -1), 2);
        CutFromOthers y = cutting(SQUARE, TWO, TWO, TWO, TWO, TWO, TWO, TWO, TWO, ONE, TWO);
        due("the last but one", y.spare(0, 0), 8);
        due("how long without it", y.spare(0, 1), 1);
    }

    private static void smallestOfTheSquare() {
        sentence("Terms 2: SMALLEST: each by some WAY (in the whole square), whatever BLOCKS there are");
        CutFromOthers x = cutting(new int[] {ONE, TWO, 1 << 24}, FIVE << 20, 3105 << 2, ONE, TEE);
        due("cells", x.smallest(1, 0), 6);
        due("the shape", x.smallest(1, 1), FIVE | 1 << 5);
        due("of one and a T", x.smallest(23, 1), TEE);
        x.cut(12);
        due("behind a cut", x.smallest(10, 1), FIVE | 1 << 5);
        x.mend(0, 0, 0);
        x.pass(50);
        due("behind years", x.smallest(10, 1), FIVE | 1 << 5);
    }

    private static void commonOfAll() {
        sentence("Terms 2: COMMON: which FIGURES (bits) can be CUT OUT of all FIGURES of a set: of each of ten");
        CutFromOthers x = with(tenInOneRow());
        int[] row = {8, 9, 7, 6, 5, 0, 1, 2, 3, 4};
        int behind = 1023;
        int set = 0;
        for (int f : row) {
            behind &= ~(1 << f);
            set |= 1 << f;
            due("common of FIGURE " + f + " alone", x.common(1 << f), behind);
            due("common of those down to FIGURE " + f, x.common(set), behind);
        }
        due("of all", x.common(1023), 0);
        due("of none", x.common(0), 1023);
    }

    private static void laterFigures() {
        sentence("Terms 1: FIGURES 0 .. 9, as they come: one that comes later is in every row, one that came keeps its number");
        CutFromOthers x = cutting(SQUARE, FOUR, TWO);
        due("two", x.longest(0, -1), 2);
        due("with both", x.with(0, 1), 2);
        x.figure(THREE);
        due("three", x.longest(0, -1), 3);
        due("the later one between them", x.longest(0, 1), 2);
        due("with both", x.with(0, 1), 3);
        due("out of the first", x.around(0, 1), 6);
        due("out of which the second can be", x.around(1, 0), 5);
        tell(x, 1, 2, FIVE, 50, ONE, 60);
        x.figures(1, 0, 2);
        due("five, two of a row", x.longest(0, -1), 5);
        due("first", x.longest(0, 0), 3);
        due("last", x.longest(0, 4), 4);
        due("the egg of four", x.egg(FOUR, 0), 22);
    }

    /** Four FIGURES with CHANGES (one of them undone), two BLOCKS, a LAW, two BODIES, a ROW of bytes and one of ints. */
    private static CutFromOthers yard() {
        CutFromOthers x = cutting(new int[] {WHOLE, 1103 << 5}, CORNER, TEE, TWO, ONE);
        law(x, "w+c*5+n*3-a*(f+1)");
        x.mend(0, 0, 250);
        x.mend(1, 1, 2);
        x.mend(2, 2, 40);
        x.mend(3, 0, 30);
        x.undo();
        tell(x, 0, 0, -1, -1, 3);
        tell(x, 1, 2, THREE, 9, 5);
        x.body(7);
        x.body(3);
        x.keep(2, 0);
        x.image();
        x.cut(1);
        x.pass(3);
        x.act(0, 3, 6);
        x.feed('w');
        return x;
    }

    private static List<Long> asked(CutFromOthers x, int group) {
        List<Long> all = new ArrayList<>();
        switch (group) {
            case SHAPES: shapes(x, all); break;
            case ROWS: rows(x, all); break;
            case TOLD: told(x, all); break;
            case BRINGS: brings(x, all); break;
            case RICHEST: richest(x, all); break;
            case DEEDS: deeds(x, all); break;
            case TRAITS: traits(x, all); break;
            case ACTS: acts(x, all); break;
            case SHELVES: shelves(x, all); break;
            case COUNTS: counts(x, all); break;
            default: trace(x, all); break;
        }
        return all;
    }

    private static void add(List<Long> all, long... answers) {
        for (long answer : answers) {
            all.add(answer);
        }
    }

    private static void shapes(CutFromOthers x, List<Long> all) {
        for (int f = 0; f <= 3; f++) {
            add(all, x.of(f, 3), x.size(f, 0), x.size(f, 1), x.size(f, 2), x.turned(f, 0), x.turned(f, 1), x.around(f, 0) & 15,
                x.around(f, 1) & 15, x.inside(10 * f + (f + 1) % 4), x.smallest(10 * f + (f + 2) % 4, 1), x.common(1 << f) & 15);
        }
        add(all, x.egg(TEE, 0) & 15, x.egg(SLANT, 1) & 15, x.egg(TWO, 1) & 15, x.egg(WHOLE, 2));
    }

    private static void rows(CutFromOthers x, List<Long> all) {
        for (int b = 0; b <= 1; b++) {
            add(all, x.longest(b, -1), x.longest(b, 0), x.longest(b, 1), x.longest(b, 2), x.with(b, 3), x.with(b, 12), x.spare(b, 0),
                x.spare(b, 1), x.leave(b, 0), x.leave(b, 1), x.byTurns(b, 0), x.byTurns(b, 1), x.byTurns(b, 2), x.drawn(b, 4, 30, -1),
                x.drawn(b, 4, 30, 2));
            for (int f = 0; f <= 3; f++) {
                add(all, x.ways(10 * b + f, 0), x.ways(10 * b + f, 1), x.ways(10 * b + f, 2));
            }
        }
    }

    private static void told(CutFromOthers x, List<Long> all) {
        for (int b = 0; b <= 1; b++) {
            add(all, x.judge(0, b), x.filled(0, b, 0), x.filled(0, b, 1), x.last(0, b));
        }
    }

    private static void brings(CutFromOthers x, List<Long> all) {
        for (int f = 0; f <= 3; f++) {
            add(all, x.brings(f, 0, 0), x.brings(f, 41, 3), x.brings(f, 99, 99), x.when(f, 0), x.when(f, 1));
        }
    }

    private static void richest(CutFromOthers x, List<Long> all) {
        for (int b = 0; b <= 1; b++) {
            add(all, x.richest(b, 0, -1), x.richest(b, 0, 0), x.richest(b, 39, -1), x.richest(b, 39, 1), x.richest(b, 99, -1));
        }
    }

    private static void deeds(CutFromOthers x, List<Long> all) {
        add(all, x.led(0), x.led(1), x.led(2), x.led(3), x.of(0, 4), x.of(1, 4), x.of(0, 5), x.of(1, 5), x.of(0, 6));
    }

    private static void traits(CutFromOthers x, List<Long> all) {
        for (int f = 0; f <= 3; f++) {
            add(all, x.of(f, 0), x.of(f, 1), x.of(f, 2));
        }
        add(all, x.count(3));
    }

    /** The acts alone; they would be the latest act, so the trace is another group. */
    private static void acts(CutFromOthers x, List<Long> all) {
        for (int act = 0; act <= 3; act++) {
            add(all, x.act(0, act, 6), x.act(1, act, -9));
        }
    }

    private static void shelves(CutFromOthers x, List<Long> all) {
        for (int shelf = 0; shelf <= 3; shelf++) {
            add(all, x.element(shelf, 0), x.element(shelf, 1), x.element(shelf, 2), x.element(shelf, 3), x.taken(shelf, 4));
        }
    }

    private static void counts(CutFromOthers x, List<Long> all) {
        add(all, x.count(0), x.count(1), x.count(2), x.count(4));
    }

    private static void trace(CutFromOthers x, List<Long> all) {
        add(all, x.count(5));
        for (int i = 0; i <= 14; i++) {
            add(all, x.trace(i));
        }
    }

    /** A deed that leaves alone all groups but some, and does alter each of these. */
    private static void leavesAlone(String call, Call deed, int... altered) {
        for (int group = 0; group < GROUPS.length; group++) {
            boolean alters = false;
            for (int one : altered) {
                alters |= one == group;
            }
            CutFromOthers x = yard();
            deed.on(x);
            boolean as = asked(x, group).equals(asked(yard(), group));
            due((alters ? "altered by " : "left alone by ") + call + ": " + GROUPS[group], as ? 1 : 0, alters ? 0 : 1);
        }
    }

    private static void figuresLeaveAlone() {
        sentence("What it leaves alone: figure, figures, block, mend, undo, redo");
        leavesAlone("figure(33554431)", x -> x.figure(WHOLE), COUNTS);
        leavesAlone("figures(1, 0, 1)", x -> x.figures(1, 0, 1) + x.mend(4, 0, 0) + x.undo() + x.redo(), COUNTS, ROWS, TOLD, TRAITS);
        leavesAlone("block(7)", x -> x.block(7), COUNTS);
        leavesAlone("mend(0, 0, 251)", x -> x.mend(0, 0, 251), TRAITS, BRINGS, RICHEST);
        leavesAlone("mend(0, 0, 250)", x -> x.mend(0, 0, 250));
        leavesAlone("mend(3, 2, 50)", x -> x.mend(3, 2, 50), TRAITS, BRINGS, RICHEST);
        leavesAlone("undo()", CutFromOthers::undo, TRAITS, BRINGS, RICHEST);
        leavesAlone("redo()", CutFromOthers::redo, TRAITS, BRINGS, RICHEST);
        leavesAlone("redo(), undo()", x -> x.redo() + x.undo());
    }

    private static void deedsLeaveAlone() {
        sentence("What it leaves alone: cut, pass, image, back");
        leavesAlone("cut(10)", x -> x.cut(10), ROWS, TOLD, RICHEST, DEEDS);
        leavesAlone("cut(0)", x -> x.cut(0), ROWS, TOLD, RICHEST, DEEDS);
        leavesAlone("pass(96)", x -> x.pass(96), DEEDS);
        leavesAlone("image()", CutFromOthers::image);
        leavesAlone("image(), back()", x -> x.image() + x.back());
        leavesAlone("back()", CutFromOthers::back, ROWS, TOLD, RICHEST, DEEDS);
    }

    private static void lawsLeaveAlone() {
        sentence("What it leaves alone: feed, law");
        leavesAlone("feed(43)", x -> x.feed('+'), COUNTS);
        leavesAlone("law()", CutFromOthers::law, COUNTS, BRINGS, RICHEST);
        leavesAlone("feed(59), law()", x -> x.feed(';') + x.law(), COUNTS);
    }

    private static void shelvesLeaveAlone() {
        sentence("What it leaves alone: body, act, keep, row, put, shift");
        leavesAlone("body(5)", x -> x.body(5), COUNTS);
        leavesAlone("act(1, 2, 8)", x -> x.act(1, 2, 8), TRACE);
        leavesAlone("act(2, 0, 8)", x -> x.act(2, 0, 8), TRACE);
        leavesAlone("keep(1, 1)", x -> x.keep(1, 1), SHELVES);
        leavesAlone("keep(2, -1)", x -> x.keep(2, -1), SHELVES);
        leavesAlone("row(3, 0, 4)", x -> x.row(3, 0, 4), SHELVES);
        leavesAlone("row(0, 2, 4)", x -> x.row(0, 2, 4), SHELVES, TOLD);
        leavesAlone("put(0, 2, 0)", x -> x.put(0, 2, 0), SHELVES, TOLD);
        leavesAlone("put(1, 0, 1)", x -> x.put(1, 0, 1), SHELVES);
        leavesAlone("shift(1, 0, 1, 1, 2)", x -> x.shift(1, 0, 1, 1, 2), SHELVES);
        leavesAlone("shift(0, 1, 0, 2, 1)", x -> x.shift(0, 1, 0, 2, 1), SHELVES, TOLD);
        leavesAlone("shift(0, 1, 0, 1, 2)", x -> x.shift(0, 1, 0, 1, 2));
    }
}
