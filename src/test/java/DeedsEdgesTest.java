/** The edges of promises 29 to 35: cutting in deed, years, AN IMAGE, CHANGES undone and done again. */
public final class DeedsEdgesTest extends Sentences {
    private static final int[] SQUARE = {WHOLE};

    public static void main(String[] args) {
        cutRefused();
        cutState();
        cutByFirstWay();
        cutBrings();
        cutToTheEnd();
        pass();
        passState();
        led();
        imageOfNone();
        backState();
        backKeeps();
        backLeavesAlone();
        backOfBlocks();
        changes();
        sameNumber();
        fortyKept();
        undoLatestFirst();
        redoUntilAnother();
        otherCallsAreNoChanges();
        end();
    }

    private static void cutRefused() {
        sentence("Promise 29: CUT: what it brings. BAD");
        CutFromOthers x = cutting(new int[] {WHOLE, PLUS}, ONE, TWO);
        dueOfAll("bf", BAD, x::cut, -1, -9, -10, -11, 2, 9, 12, 19, 20, 21, 60, 100, MIN, MAX);
        dueOfAll("bf of nothing", BAD, new CutFromOthers()::cut, -1, 0, 1, 10, 60);
        dueOfAll("bf without blocks", BAD, with(ONE)::cut, 0, 10);
        dueOfAll("bf without figures", BAD, cutting(SQUARE)::cut, 0, 1);
        due("nothing was cut", x.led(0), 0);
        due("the greatest bf", x.cut(11), 100);
        due("the least bf", x.cut(0), 100);
        CutFromOthers full = cutting(new int[] {1, 1, 1, 1, 1, TWO}, 1, 1, 1, 1, 1, 1, 1, 1, 1, 1 << 24);
        dueOfAll("bf of all", BAD, full::cut, -1, 60, 61, 69);
        due("59", full.cut(59), 100);
    }

    private static void cutState() {
        sentence("Promise 29: STATE: it can't be CUT OUT");
        CutFromOthers x = cutting(new int[] {PLUS, FIVE << 20, ONE}, PLUS, FIVE, CORNER, ONE, THREE);
        due("as many cells, the same", x.cut(0), STATE);
        due("as many cells, another one", x.cut(1), STATE);
        due("it does not fit", x.cut(12), STATE);
        due("one cell of one", x.cut(23), STATE);
        due("nothing was cut", x.led(0) + x.led(1) + x.led(2) + x.of(0, 5), 0);
        due("left as it was", x.of(1, 4), FIVE << 20);
        due("three of five", x.cut(14), 100);
        due("three of three", x.cut(14), STATE);
        due("cut of it", x.of(1, 5), 1);
        due("left", x.of(1, 4), THREE << 20);
    }

    private static void cutByFirstWay() {
        sentence("Terms 4: by the first WAY: its cells are LEFT, where they are");
        int[] blocks = {PLUS << 12, 3 << 23 | 1 << 19, 1 | 1 << 24, FIVE << 20, 1082401 << 4, WHOLE};
        int[] shapes = {ONE, TWO, CORNER};
        int[][] left = {
            {1 << 13, 1 << 17 | 1 << 18, 1 << 18 | 1 << 19 | 1 << 23}, {1 << 19, 3 << 23, 0}, {1, 0, 0},
            {1 << 20, 3 << 20, 0}, {1 << 4, 1 << 4 | 1 << 9, 0}, {1, TWO, CORNER}
        };
        for (int f = 0; f < shapes.length; f++) {
            CutFromOthers x = cutting(blocks, shapes);
            for (int b = 0; b < blocks.length; b++) {
                boolean can = left[b][f] != 0;
                int way = x.ways(10 * b + f, 1);
                due("cut(" + (10 * b + f) + ") by way " + way, x.cut(10 * b + f), can ? 100 : STATE);
                due("left of " + b, x.of(b, 4), can ? left[b][f] : blocks[b]);
            }
        }
        // its third turn alone fits, at the square's end
        CutFromOthers last = cutting(new int[] {97 << 18 | 1}, CORNER);
        due("by the last of all ways", last.cut(0), 100);
        due("left", last.of(0, 4), 97 << 18);
    }

    private static void cutBrings() {
        sentence("Terms 4: it brings what THE LAW gives NOW, n by how many were cut of that BLOCK");
        CutFromOthers x = cutting(new int[] {FIVE, FIVE}, FOUR, THREE, TWO, ONE);
        law(x, "w+a*10+n");
        x.mend(3, 2, 99);
        due("none cut yet", x.cut(0), 100);
        due("one cut", x.cut(1), 101);
        due("none cut of the other one", x.cut(10), 100);
        x.pass(99);
        due("two cut, year 99", x.cut(2), 1092);
        due("three cut, in its year", x.cut(3), 103);
        due("one cut of the other one", x.cut(13), 101);
        due("brought", x.led(2), 1597);
        CutFromOthers y = cutting(new int[] {FIVE}, FOUR, THREE);
        y.mend(0, 0, 0);
        due("it brings nothing", y.cut(0), 0);
        due("and is cut", y.of(0, 4), FOUR);
        due("it counts", y.led(0), 1);
    }

    private static void cutToTheEnd() {
        sentence("Terms 4: how many were cut of that BLOCK; cuts, cells lost, what they brought");
        CutFromOthers x = cutting(SQUARE, tenInOneRow());
        law(x, "9990+n");
        int[] row = {8, 9, 7, 6, 5, 0, 1, 2, 3, 4};
        for (int i = 0; i < 10; i++) {
            due("cut " + i, x.cut(row[i]), 9990 + i);
            due("cut of it", x.of(0, 5), i + 1);
        }
        due("cuts", x.led(0), 10);
        due("cells lost", x.led(1), 24);
        due("brought", x.led(2), 99945);
        due("nothing more", x.cut(4), STATE);
    }

    private static void pass() {
        sentence("Promise 30: n years (1 .. 99) pass: NOW. BAD");
        CutFromOthers x = new CutFromOthers();
        dueOfAll("n", BAD, x::pass, 0, -1, 100, 101, MIN, MAX);
        due("now", x.led(3), 0);
        due("pass(1)", x.pass(1), 1);
        due("pass(97)", x.pass(97), 98);
        due("pass(1)", x.pass(1), 99);
        due("pass(99) at once", new CutFromOthers().pass(99), 99);
    }

    private static void passState() {
        sentence("Promise 30: STATE: it would be more than 99");
        CutFromOthers x = new CutFromOthers();
        x.pass(1);
        due("99 more", x.pass(99), STATE);
        due("98 more", x.pass(98), 99);
        due("one more", x.pass(1), STATE);
        due("99 more", x.pass(99), STATE);
        dueOfAll("n that is none", BAD, x::pass, 0, -1, 100, MIN, MAX);
        due("now", x.led(3), 99);
        due("now", x.of(0, 6), 99);
    }

    private static void led() {
        sentence("Promise 31: LED: cuts (what 0), cells lost (1), brought (2), NOW (3). BAD");
        CutFromOthers x = cutting(new int[] {WHOLE, TWO}, ONE);
        dueOfAll("what", BAD, x::led, -1, 4, 5, MIN, MAX);
        x.cut(0);
        due("cuts", x.led(0), 1);
        due("most cells lost at once", x.led(1), 24);
        due("brought", x.led(2), 100);
        x.cut(10);
        due("cuts", x.led(0), 2);
        due("one more lost", x.led(1), 25);
        due("brought", x.led(2), 200);
        due("now", x.led(3), 0);
        due("a cut that can't be", x.cut(0), STATE);
        due("cuts", x.led(0), 2);
    }

    private static void imageOfNone() {
        sentence("Promise 32: AN IMAGE is kept: cuts");
        CutFromOthers x = new CutFromOthers();
        due("nothing there yet", x.image(), 0);
        due("laid back", x.back(), 0);
        due("once more", x.back(), 0);
        x.block(TWO);
        x.figure(ONE);
        x.pass(4);
        x.cut(0);
        due("a block that came since", x.back(), 0);
        due("it stays as it is", x.of(0, 4), ONE);
        due("how many were cut of it", x.of(0, 5), 1);
        due("now", x.led(3), 0);
        due("lost", x.led(1), 0);
        due("brought", x.led(2), 0);
        due("another image: what is led", x.image(), 0);
    }

    private static void backState() {
        sentence("Promise 33: STATE: there is none");
        CutFromOthers x = cutting(SQUARE, ONE);
        due("none yet", x.back(), STATE);
        x.cut(0);
        x.pass(3);
        due("none yet", x.back(), STATE);
        due("left", x.of(0, 4), 1);
        due("cuts", x.led(0), 1);
        due("now", x.led(3), 3);
        due("an image", x.image(), 1);
        due("laid back", x.back(), 1);
    }

    private static void backKeeps() {
        sentence("Terms 4: AN IMAGE keeps what is LEFT, how many were cut of each, NOW, what LED tells");
        CutFromOthers x = cutting(new int[] {WHOLE, FIVE, 1, 1, 1, PLUS}, THREE, TWO, ONE);
        x.cut(0);
        x.cut(51);
        x.pass(5);
        due("image", x.image(), 2);
        x.cut(1);
        x.cut(2);
        x.cut(10);
        x.cut(52);
        x.pass(94);
        due("cuts", x.led(0), 6);
        for (int time = 0; time < 3; time++) {
            due("back, time " + time, x.back(), 2);
            due("left of the first", x.of(0, 4), THREE);
            due("left of the second", x.of(1, 4), FIVE);
            due("left of the last", x.of(5, 4), TWO << 5);
            due("cut of the first", x.of(0, 5), 1);
            due("cut of the second", x.of(1, 5), 0);
            due("cut of the last", x.of(5, 5), 1);
            due("lost", x.led(1), 22 + 3);
            due("brought", x.led(2), 200);
            due("now", x.led(3), 5);
            due("now", x.of(0, 6), 5);
            due("a cut since", x.cut(12), 100);
            due("years since", x.pass(90), 95);
        }
        due("a later image", x.image(), 3);
        x.cut(1);
        due("the later one is laid back", x.back(), 3);
        due("left of the first", x.of(0, 4), THREE);
        due("left of the second", x.of(1, 4), 1);
        due("now", x.led(3), 95);
    }

    private static void backLeavesAlone() {
        sentence("Terms 4: CHANGES, FIGURES, THE LAW, SHELVES and BODIES are not in AN IMAGE");
        CutFromOthers x = cutting(SQUARE, ONE);
        x.image();
        x.mend(0, 0, 7);
        x.figure(TWO);
        x.body(3);
        x.act(0, 0, 1);
        x.row(0, 0, 2);
        x.put(0, 1, 9);
        law(x, "w+1");
        x.feed('w');
        due("back", x.back(), 0);
        due("worth", x.of(0, 0), 7);
        due("by the law", x.brings(0, 0, 0), 8);
        int[] counts = {2, 1, 1, 1, 1, 1};
        for (int what = 0; what <= 5; what++) {
            due("count(" + what + ")", x.count(what), counts[what]);
        }
        due("the row", x.element(0, 1), 9);
        due("trace", x.trace(0), 1);
        due("undo", x.undo(), 0);
        due("back, once more", x.back(), 0);
        due("redo", x.redo(), 0);
        due("worth", x.of(0, 0), 7);
    }

    private static void backOfBlocks() {
        sentence("Promise 33: BLOCKS that came since stay as they are");
        CutFromOthers x = cutting(new int[] {FIVE, FIVE}, FOUR, THREE, TWO, ONE);
        x.cut(0);
        x.image();
        for (int b = 2; b <= 5; b++) {
            due("block", x.block(FIVE << 5 * (b - 1)), b);
        }
        x.cut(20);
        x.cut(51);
        x.cut(52);
        x.cut(11);
        due("back", x.back(), 1);
        due("blocks", x.count(1), 6);
        due("the seventh", x.block(1), FULL);
        int[] left = {FOUR, FIVE, FOUR << 5, FIVE << 10, FIVE << 15, TWO << 20};
        int[] cuts = {1, 0, 1, 0, 0, 2};
        for (int b = 0; b <= 5; b++) {
            due("left of " + b, x.of(b, 4), left[b]);
            due("cut of " + b, x.of(b, 5), cuts[b]);
        }
        due("led", x.led(0), 1);
        law(x, "n");
        due("n of one that came since", x.cut(53), 2);
        due("n of one that was laid back", x.cut(12), 0);
        due("a later image", x.image(), 3);
        x.cut(33);
        due("which has them all", x.back(), 3);
        due("left of 3", x.of(3, 4), FIVE << 10);
        due("left of 5", x.of(5, 4), 1 << 20);
    }

    private static void changes() {
        sentence("Promises 34, 35: UNDONE: how many may still be. STATE: none. DONE AGAIN: how many may still be. STATE: none");
        CutFromOthers x = with(ONE, TWO);
        due("undo, none yet", x.undo(), STATE);
        due("redo, none yet", x.redo(), STATE);
        x.mend(0, 0, 1);
        due("redo, none undone", x.redo(), STATE);
        due("undo", x.undo(), 0);
        due("worth", x.of(0, 0), 100);
        due("undo, no more", x.undo(), STATE);
        due("worth", x.of(0, 0), 100);
        due("redo", x.redo(), 0);
        due("worth", x.of(0, 0), 1);
        due("redo, no more", x.redo(), STATE);
        due("worth", x.of(0, 0), 1);
        x.mend(1, 1, 9);
        x.mend(1, 2, 99);
        due("changes", x.count(3), 3);
        due("undo", x.undo(), 2);
        due("changes", x.count(3), 2);
        due("undo", x.undo(), 1);
        due("fades, year", x.of(1, 1) + x.of(1, 2), 0);
        due("undo", x.undo(), 0);
        due("redo", x.redo(), 2);
        due("redo", x.redo(), 1);
        due("fades", x.of(1, 1), 9);
        due("year", x.of(1, 2), 0);
        due("redo", x.redo(), 0);
        due("year", x.of(1, 2), 99);
        due("changes", x.count(3), 3);
    }

    private static void sameNumber() {
        sentence("Terms 4: telling the same number is none");
        CutFromOthers x = with(ONE);
        due("worth", x.mend(0, 0, 100), 100);
        due("fades", x.mend(0, 1, 0), 0);
        due("year", x.mend(0, 2, 0), 0);
        due("changes", x.count(3), 0);
        due("undo", x.undo(), STATE);
        x.mend(0, 0, 5);
        x.mend(0, 0, 6);
        x.mend(0, 0, 6);
        due("changes", x.count(3), 2);
        x.undo();
        due("the same as it is again", x.mend(0, 0, 5), 5);
        due("so the other one can be done again", x.redo(), 0);
        due("worth", x.of(0, 0), 6);
    }

    private static void fortyKept() {
        sentence("Terms 4: 40 at most are kept");
        for (int made = 38; made <= 42; made++) {
            CutFromOthers x = with(ONE);
            for (int i = 1; i <= made; i++) {
                due("change " + i, x.mend(0, 0, 200 + i), i == 1 ? 100 : 199 + i);
                due("kept", x.count(3), Math.min(40, i));
            }
            int kept = Math.min(40, made);
            for (int i = kept - 1; i >= 0; i--) {
                due("undo of " + made, x.undo(), i);
            }
            due("no more of " + made, x.undo(), STATE);
            due("worth of " + made, x.of(0, 0), made <= 40 ? 100 : 200 + made - 40);
            for (int i = kept - 1; i >= 0; i--) {
                due("redo of " + made, x.redo(), i);
            }
            due("no more of " + made, x.redo(), STATE);
            due("worth of " + made, x.of(0, 0), 200 + made);
        }
        CutFromOthers twice = with(ONE, TWO);
        for (int i = 1; i <= 40; i++) {
            twice.mend(0, 0, 200 + i);
        }
        twice.undo();
        twice.mend(1, 2, 5);
        due("kept, one for another", twice.count(3), 40);
        twice.mend(1, 2, 6);
        due("kept", twice.count(3), 40);
        for (int i = 39; i >= 0; i--) {
            due("undo", twice.undo(), i);
        }
        due("the oldest is gone", twice.of(0, 0), 201);
        due("year", twice.of(1, 2), 0);
    }

    private static void undoLatestFirst() {
        sentence("Terms 4: CHANGES (WORTH, FADES, YEAR) can be UNDONE, the latest first, and DONE AGAIN");
        CutFromOthers x = with(ONE, TWO, THREE);
        int[][] told = {{0, 0, 999}, {1, 1, 9}, {2, 2, 99}, {0, 0, 0}, {1, 1, 0}, {2, 2, 0}, {2, 0, 1}, {0, 2, 1}, {1, 0, 3}};
        int[] was = new int[told.length];
        for (int i = 0; i < told.length; i++) {
            was[i] = x.mend(told[i][0], told[i][1], told[i][2]);
        }
        for (int i = told.length - 1; i >= 0; i--) {
            due("ahead of undo " + i, x.of(told[i][0], told[i][1]), told[i][2]);
            due("undo", x.undo(), i);
            due("behind undo " + i, x.of(told[i][0], told[i][1]), was[i]);
        }
        for (int i = 0; i < told.length; i++) {
            due("ahead of redo " + i, x.of(told[i][0], told[i][1]), was[i]);
            due("redo", x.redo(), told.length - 1 - i);
            due("behind redo " + i, x.of(told[i][0], told[i][1]), told[i][2]);
        }
    }

    private static void redoUntilAnother() {
        sentence("Terms 4: DONE AGAIN (as long as no other came behind)");
        CutFromOthers x = with(ONE, TWO);
        x.mend(0, 0, 1);
        x.mend(0, 0, 2);
        x.mend(0, 0, 3);
        x.undo();
        x.undo();
        due("another one", x.mend(1, 0, 9), 100);
        due("redo", x.redo(), STATE);
        due("worth", x.of(0, 0), 1);
        due("changes", x.count(3), 2);
        due("undo the other one", x.undo(), 1);
        due("redo the other one", x.redo(), 0);
        due("worth of that", x.of(1, 0), 9);
        x.undo();
        due("the same again is a change, too", x.mend(1, 0, 9), 100);
        due("redo", x.redo(), STATE);
        x.undo();
        x.undo();
        dueOfAll("one that is BAD", BAD, v -> x.mend(0, 0, v), -1, 1000);
        due("is none: redo", x.redo(), 1);
        due("worth", x.of(0, 0), 1);
    }

    private static void otherCallsAreNoChanges() {
        sentence("Terms 4: deeds are none");
        CutFromOthers x = cutting(SQUARE, ONE, TWO);
        x.mend(0, 0, 1);
        x.mend(0, 0, 2);
        x.undo();
        x.cut(1);
        x.pass(3);
        x.image();
        x.cut(0);
        x.back();
        x.figure(THREE);
        x.block(THREE);
        tell(x, 0, 2, FOUR, 4);
        x.figures(0, 0, 1);
        law(x, "w");
        x.body(0);
        due("changes", x.count(3), 1);
        due("redo", x.redo(), 0);
        due("worth", x.of(0, 0), 2);
        due("undo", x.undo(), 1);
        due("undo", x.undo(), 0);
        due("what was cut stays", x.of(0, 4), TWO);
        due("a year stays", x.led(3), 3);
        due("a figure stays", x.count(0), 4);
        due("its worth stays", x.of(3, 0), 4);
        due("undo", x.undo(), STATE);
    }
}
