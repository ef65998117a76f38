import java.util.ArrayList;
import java.util.List;
import java.util.function.IntToLongFunction;

/** What the tests of the document's sentences share: each answer is asked under the sentence that it tries. */
abstract class Sentences {
    protected static final int BAD = -1, NOT = -2, FULL = -3, STATE = -5;
    protected static final int NOTHING = -11, OTHER = -12, NO_PLACE = -13, BELOW_ZERO = -14;
    protected static final int MIN = Integer.MIN_VALUE, MAX = Integer.MAX_VALUE;
    protected static final long NONE = Long.MIN_VALUE;
    protected static final int WHOLE = 33554431;
    // bars of one to five cells, a corner of three, a slant of two, a T of four, a plus of five
    protected static final int ONE = 1, TWO = 3, THREE = 7, FOUR = 15, FIVE = 31;
    protected static final int CORNER = 35, SLANT = 65, TEE = 71, PLUS = 2274;
    // what an object may be asked; what later calls answer is free
    protected static final int MOST_CALLS = 512;

    private static String sentence = "";
    private static int sentences;
    private static int asked;
    private static int wrong;

    /** A call on an object, and what it answers. */
    protected interface Call {
        long on(CutFromOthers x);
    }

    protected static void sentence(String words) {
        sentence = words;
        sentences++;
    }

    protected static void due(String call, long got, long want) {
        asked++;
        if (got != want) {
            wrong++;
            System.out.println("\"" + sentence + "\": " + call + " answered " + got + ", due is " + want);
        }
    }

    /** One call asked with each of some values. */
    protected static void dueOfAll(String call, long want, IntToLongFunction asking, int... values) {
        for (int value : values) {
            due(call + " with " + value, asking.applyAsLong(value), want);
        }
    }

    protected static void end() {
        System.out.println(wrong == 0
            ? sentences + " sentences hold in " + asked + " answers" : wrong + " answers are not as due");
        if (wrong != 0) {
            System.exit(1);
        }
    }

    protected static CutFromOthers with(int... shapes) {
        CutFromOthers x = new CutFromOthers();
        for (int shape : shapes) {
            x.figure(shape);
        }
        return x;
    }

    /** FIGURES, and BLOCKS behind them. */
    protected static CutFromOthers cutting(int[] blocks, int... shapes) {
        CutFromOthers x = with(shapes);
        for (int block : blocks) {
            x.block(block);
        }
        return x;
    }

    /** Ten FIGURES, each but the last (by size) of which can be cut out of the next; not in that order. */
    protected static int[] tenInOneRow() {
        return new int[] {31, 15, 7, 3, 1, 1023, 32767, 1048575, WHOLE - 1, WHOLE ^ 1 << 4 ^ 1};
    }

    protected static int law(CutFromOthers x, String text) {
        for (int i = 0; i < text.length(); i++) {
            x.feed(text.charAt(i));
        }
        return x.law();
    }

    protected static void tell(CutFromOthers x, int shelf, int sort, long... values) {
        x.row(shelf, sort, values.length);
        for (int i = 0; i < values.length; i++) {
            x.put(shelf, i, values[i]);
        }
    }

    protected static List<Long> elements(CutFromOthers x, int shelf, int n) {
        List<Long> all = new ArrayList<>();
        for (int i = 0; i < n; i++) {
            all.add(x.element(shelf, i));
        }
        return all;
    }
}
