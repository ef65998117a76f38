import java.util.ArrayList;
import java.util.List;

/** Objects in four states, and all that can be told of one, in parts that need few enough calls each. */
final class Yards {
    static final int EMPTY = 0, BARE = 1, SOME = 2, TAKEN = 3, STATES = 4;
    static final String[] NAMES = {"a new object", "blocks alone", "some of all", "all places taken"};
    static final int PARTS = 8, TRACE = 7;

    private static final int WHOLE = 33554431;
    private static final int REFUSED = -5;

    private Yards() {
    }

    static CutFromOthers built(int state) {
        CutFromOthers x = new CutFromOthers();
        switch (state) {
            case BARE: bare(x); break;
            case SOME: some(x); break;
            case TAKEN: taken(x); break;
            default: break;
        }
        return x;
    }

    private static void bare(CutFromOthers x) {
        x.block(WHOLE);
        x.block(1);
    }

    /** 4 figures, 2 blocks, 3 bodies, 3 changes and one undone; each sort of shelf but booleans. */
    private static void some(CutFromOthers x) {
        int[] figures = {3, 35, 2274, 1};
        for (int shape : figures) {
            x.figure(shape);
        }
        x.block(WHOLE);
        x.block(2274 << 2);
        x.mend(0, 0, 250);
        x.mend(1, 1, 2);
        x.mend(2, 2, 40);
        x.mend(3, 0, 7);
        x.undo();
        feed(x, "w+a+n*10+k");
        x.law();
        feed(x, "w*2");
        x.body(0);
        x.body(7);
        x.body(3);
        row(x, 0, 0, -1, 0, 3);
        row(x, 1, 1, 300, 2);
        row(x, 2, 2, 31, 50, 0, 5);
        x.keep(3, 1);
        row(x, 4, 3, 1L << 40, -1);
        x.cut(2);
        x.pass(5);
        x.image();
        x.cut(0);
        x.pass(1);
        x.act(1, 3, 4);
    }

    /** Ten figures, 6 blocks, 120 bytes, 50 bodies, 38 changes and two undone, year 99. */
    private static void taken(CutFromOthers x) {
        int[] figures = {31, 15, 7, 3, 1, 1023, 32767, 1048575, WHOLE - 1, WHOLE ^ 1 << 4 ^ 1};
        for (int shape : figures) {
            x.figure(shape);
        }
        int[] blocks = {WHOLE, WHOLE, 31, 1, 2274, 3};
        for (int shape : blocks) {
            x.block(shape);
        }
        feed(x, "k*10+n+w%7");
        x.law();
        for (int i = 0; i < 59; i++) {
            feed(x, "1+");
        }
        feed(x, "11");
        for (int i = 0; i < 50; i++) {
            x.body(i % 8);
        }
        for (int i = 0; i < 41; i++) {
            x.mend(i % 10, 0, 500 + i);
        }
        x.undo();
        x.undo();
        x.cut(8);
        x.cut(9);
        x.pass(98);
        x.image();
        x.pass(1);
        x.cut(7);
        row(x, 0, 2, 1, 1, 1);
        x.row(1, 4, 60);
        x.put(1, 59, 1);
        x.row(2, 0, 0);
        x.keep(3, 49);
        x.row(4, 0, 60);
        x.put(4, 0, -1);
        row(x, 5, 1, 300);
        x.act(47, 3, 4);
    }

    private static void feed(CutFromOthers x, String text) {
        for (int i = 0; i < text.length(); i++) {
            x.feed(text.charAt(i));
        }
    }

    private static void row(CutFromOthers x, int shelf, int sort, long... values) {
        x.row(shelf, sort, values.length);
        for (int i = 0; i < values.length; i++) {
            x.put(shelf, i, values[i]);
        }
    }

    static List<Long> told(CutFromOthers x, int part) {
        List<Long> all = new ArrayList<>();
        switch (part) {
            case 0: counted(x, all); break;
            case 1: elements(x, all); break;
            case 2: sorts(x, all); break;
            case 3: laws(x, all); break;
            case 4: changes(x, all); break;
            case 5: image(x, all); break;
            case 6: related(x, all); break;
            default: trace(x, all); break;
        }
        return all;
    }

    private static void counted(CutFromOthers x, List<Long> all) {
        for (int what = 0; what <= 4; what++) {
            all.add((long) x.count(what));
        }
        traits(x, all);
        for (int f = 0; f <= 9; f++) {
            all.add((long) x.of(f, 3));
        }
        deeds(x, all);
    }

    private static void traits(CutFromOthers x, List<Long> all) {
        for (int f = 0; f <= 9; f++) {
            for (int what = 0; what <= 2; what++) {
                all.add((long) x.of(f, what));
            }
        }
    }

    private static void deeds(CutFromOthers x, List<Long> all) {
        for (int what = 0; what <= 3; what++) {
            all.add((long) x.led(what));
        }
        for (int b = 0; b <= 5; b++) {
            all.add((long) x.of(b, 4));
            all.add((long) x.of(b, 5));
        }
        all.add((long) x.of(0, 6));
    }

    private static void elements(CutFromOthers x, List<Long> all) {
        for (int shelf = 0; shelf <= 5; shelf++) {
            all.add((long) x.taken(shelf, 0));
            long v = 0;
            for (int i = 0; i <= 60 && v != Long.MIN_VALUE; i++) {
                v = x.element(shelf, i);
                all.add(v);
            }
        }
    }

    /** Which rows are of like sorts, then which bits they keep. */
    private static void sorts(CutFromOthers x, List<Long> all) {
        for (int one = 0; one <= 5; one++) {
            for (int other = 0; other <= 5; other++) {
                all.add((long) x.shift(one, 0, other, 0, 0));
            }
        }
        for (int shelf = 0; shelf <= 5; shelf++) {
            all.add((long) x.put(shelf, 0, 0x1234567890ABCDEFL));
            all.add(x.element(shelf, 0));
        }
    }

    private static void laws(CutFromOthers x, List<Long> all) {
        for (int time = 0; time < 2; time++) {
            for (int f = 0; f <= 9; f++) {
                all.add((long) x.brings(f, 7, 3));
                all.add((long) x.brings(f, 90, 0));
            }
            all.add((long) x.count(2));
            all.add((long) x.law());
        }
    }

    private static void changes(CutFromOthers x, List<Long> all) {
        long left = 0;
        for (int i = 0; i <= 41 && left != REFUSED; i++) {
            left = x.redo();
            all.add(left);
        }
        traits(x, all);
        left = 0;
        for (int i = 0; i <= 41 && left != REFUSED; i++) {
            left = x.undo();
            all.add(left);
        }
        traits(x, all);
    }

    private static void image(CutFromOthers x, List<Long> all) {
        for (int time = 0; time < 2; time++) {
            all.add((long) x.back());
            deeds(x, all);
        }
    }

    private static void related(CutFromOthers x, List<Long> all) {
        for (int f = 0; f <= 9; f++) {
            all.add((long) x.around(f, 0));
            all.add((long) x.around(f, 1));
            all.add((long) x.turned(f, 1));
        }
        for (int b = 0; b <= 5; b++) {
            all.add((long) x.longest(b, -1));
            all.add((long) x.richest(b, 3, -1));
            all.add((long) x.leave(b, 1));
            all.add((long) x.byTurns(b, 1));
            all.add((long) x.drawn(b, 5, 9, -1));
            all.add((long) x.judge(0, b));
        }
    }

    private static void trace(CutFromOthers x, List<Long> all) {
        all.add((long) x.count(5));
        for (int i = 0; i < 15; i++) {
            all.add((long) x.trace(i));
        }
    }
}
