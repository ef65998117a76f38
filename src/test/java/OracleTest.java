import java.util.ArrayList;
import java.util.List;
import java.util.Random;

/** Long runs of drawn calls, each answer held against Naive's. The seeds are fixed, so every run is the same. */
public final class OracleTest {
    // an object may be asked 512 calls; one step asks at most 61 of them
    private static final int CALLS = 512;
    private static final int MOST_OF_A_STEP = 61;
    private static final int[] SHAPES = {
        1, 3, 7, 15, 31, 33, 35, 65, 99, 103, 229, 231, 263, 1057, 2115, 2274, 3105, 7399, 15855, 201135, 507375,
        16777216, 1082401, 17043521, 33554430, 33554431
    };
    private static final String[] TEXTS = {
        "w-a*f+c*3-n*(k=1)*20", "w", "a>3?w/2;w", "n?0;w*2", "9999*9999", "-w", "!a*w+f", "w%7*c", "k&n|a<5",
        "c=1?5;c>3&n<2?w-a;(w+1)*!(k=2)", "w/a", "w%f", "((((((w))))))", "!!!-!-w", "c*c-n*n+k", "f?0-1;7",
        "w*9999*9999*9999*9999/3", "a<a=a", "(((((((w)))))))", "w+", "w;", ";w", "12345", "w?w?w", "w(", ")", "w w", ""
    };

    private final Random draw;
    private final CutFromOthers is = new CutFromOthers();
    private final Naive due = new Naive();
    private final List<String> calls = new ArrayList<>();
    private int wrong;

    private OracleTest(long seed) {
        draw = new Random(seed);
    }

    public static void main(String[] args) {
        int runs = args.length > 0 ? Integer.parseInt(args[0]) : 80;
        int first = args.length > 1 ? Integer.parseInt(args[1]) : 1;
        int wrong = 0;
        for (int seed = first; seed < first + runs && wrong == 0; seed++) {
            wrong += new OracleTest(seed).run(seed);
        }
        System.out.println(wrong == 0 ? runs + " drawn runs are as due" : "a drawn run is not as due");
        if (wrong != 0) {
            System.exit(1);
        }
    }

    private int run(int seed) {
        for (int i = 0; calls.size() + MOST_OF_A_STEP <= CALLS && wrong == 0; i++) {
            call(i);
        }
        if (wrong != 0) {
            System.out.println("seed " + seed + ":");
            for (String call : calls) {
                System.out.println("  " + call);
            }
        }
        return wrong;
    }

    private void same(String call, long got, long want) {
        calls.add(call + " = " + got + (got == want ? "" : ", due is " + want));
        if (got != want) {
            wrong++;
        }
    }

    /** Mostly from low to high, sometimes beyond. */
    private int from(int low, int high) {
        int chance = draw.nextInt(60);
        if (chance == 0) {
            return low - 1;
        }
        if (chance == 1) {
            return high + 1;
        }
        if (chance == 2) {
            return draw.nextInt();
        }
        return low + draw.nextInt(high - low + 1);
    }

    private int shape() {
        int chance = draw.nextInt(40);
        if (chance == 0) {
            return from(1, 33554431);
        }
        if (chance < 4) {
            return draw.nextInt(33554432);
        }
        if (chance < 24) {
            return SHAPES[draw.nextInt(SHAPES.length)];
        }
        int cells = 1 + draw.nextInt(9);
        int shape = 0;
        int side = 2 + draw.nextInt(4);
        for (int i = 0; i < cells; i++) {
            shape |= 1 << 5 * draw.nextInt(side) + draw.nextInt(side);
        }
        return shape;
    }

    private int figure() {
        return from(0, Math.max(0, due.count(0) - 1));
    }

    private int block() {
        return from(0, Math.max(0, due.count(1) - 1));
    }

    private int two(int first, int second) {
        return first < 0 || first > 99 || second < 0 ? first : 10 * first + second % 10;
    }

    private void call(int i) {
        int kind = i < 16 ? draw.nextInt(2) * 2 : draw.nextInt(45);
        if (kind < 9) {
            figuresAndBlocks(kind);
        } else if (kind < 24) {
            shapesAndRows(kind);
        } else if (kind < 35) {
            toldAndDeeds(kind);
        } else {
            actsAndShelves(kind);
        }
    }

    private void figuresAndBlocks(int kind) {
        int a = figure();
        int s = shape();
        switch (kind) {
            case 0: case 1:
                same("figure(" + s + ")", is.figure(s), due.figure(s));
                break;
            case 2:
                same("block(" + s + ")", is.block(s), due.block(s));
                break;
            case 3: {
                int what = from(0, 2);
                int v = from(0, what == 0 ? 999 : what == 1 ? 9 : 99);
                v = draw.nextInt(5) == 0 ? due.of(a, what) : v;
                same("mend(" + a + ", " + what + ", " + v + ")", is.mend(a, what, v), due.mend(a, what, v));
                break;
            }
            case 4: {
                int what = from(0, 6);
                int number = what == 6 ? from(0, 0) : what > 3 ? block() : a;
                same("of(" + number + ", " + what + ")", is.of(number, what), due.of(number, what));
                break;
            }
            case 5: {
                int letter = from(0, 255);
                same("feed(" + letter + ")", is.feed(letter), due.feed(letter));
                break;
            }
            case 6: case 7: {
                String text = draw.nextInt(3) == 0 ? drawnText() : TEXTS[draw.nextInt(TEXTS.length)];
                for (int i = 0; i < text.length(); i++) {
                    same("feed(" + text.charAt(i) + ")", is.feed(text.charAt(i)), due.feed(text.charAt(i)));
                }
                same("law()", is.law(), due.law());
                break;
            }
            default: {
                int year = from(0, 99);
                int n = from(0, 99);
                same("brings(" + a + ", " + year + ", " + n + ")", is.brings(a, year, n), due.brings(a, year, n));
            }
        }
    }

    /** A text by the grammar, of which now and then a byte is changed, lost or put in. */
    private String drawnText() {
        StringBuilder text = new StringBuilder(expression(3));
        for (int lines = draw.nextInt(3); lines > 0; lines--) {
            text.append(draw.nextBoolean() ? "?" : ";").append(expression(2)).append(';').append(expression(2));
        }
        String signs = "wfacnk0123456789()!-+*/%<=>&|;?x ";
        if (draw.nextBoolean() && text.length() > 0) {
            int at = draw.nextInt(text.length());
            char sign = signs.charAt(draw.nextInt(signs.length()));
            switch (draw.nextInt(4)) {
                case 0: text.setCharAt(at, sign); break;
                case 1: text.deleteCharAt(at); break;
                case 2: text.insert(at, sign); break;
                default: text.setLength(at);
            }
        }
        return text.length() > 60 ? text.substring(0, 60) : text.toString();
    }

    private String expression(int depth) {
        switch (draw.nextInt(depth > 0 ? 8 : 2)) {
            case 0: return "wfacnk".substring(draw.nextInt(6)).substring(0, 1);
            case 1: return "" + draw.nextInt(draw.nextInt(4) == 0 ? 10000 : 20);
            case 2: return "!" + expression(depth - 1);
            case 3: return "-" + expression(depth - 1);
            case 4: return "(" + expression(depth - 1) + ")";
            default: {
                String signs = "+-*/%<=>&|";
                return expression(depth - 1) + signs.charAt(draw.nextInt(signs.length())) + expression(depth - 1);
            }
        }
    }

    private void shapesAndRows(int kind) {
        int a = figure();
        int b = block();
        int ab = two(a, figure());
        int bf = two(b, a);
        int k = from(-1, 5);
        int one = from(0, 1);
        int two = from(0, 2);
        switch (kind) {
            case 9: same("size(" + a + ", " + two + ")", is.size(a, two), due.size(a, two)); break;
            case 10: {
                int n = from(0, 3);
                same("turned(" + a + ", " + n + ")", is.turned(a, n), due.turned(a, n));
                break;
            }
            case 11: same("ways(" + bf + ", " + two + ")", is.ways(bf, two), due.ways(bf, two)); break;
            case 12: same("inside(" + ab + ")", is.inside(ab), due.inside(ab)); break;
            case 13: same("around(" + a + ", " + one + ")", is.around(a, one), due.around(a, one)); break;
            case 14: {
                int set = from(0, (1 << due.count(0)) - 1) & (draw.nextBoolean() ? -1 : 1 << draw.nextInt(10));
                same("common(" + set + ")", is.common(set), due.common(set));
                break;
            }
            case 15: same("longest(" + b + ", " + k + ")", is.longest(b, k), due.longest(b, k)); break;
            case 16: {
                int year = from(0, 99);
                String call = "richest(" + b + ", " + year + ", " + k + ")";
                same(call, is.richest(b, year, k), due.richest(b, year, k));
                break;
            }
            case 17: same("with(" + b + ", " + ab + ")", is.with(b, ab), due.with(b, ab)); break;
            case 18: same("spare(" + b + ", " + one + ")", is.spare(b, one), due.spare(b, one)); break;
            case 19: same("when(" + a + ", " + one + ")", is.when(a, one), due.when(a, one)); break;
            case 20: same("smallest(" + ab + ", " + one + ")", is.smallest(ab, one), due.smallest(ab, one)); break;
            case 21: same("leave(" + b + ", " + one + ")", is.leave(b, one), due.leave(b, one)); break;
            case 22: same("byTurns(" + b + ", " + two + ")", is.byTurns(b, two), due.byTurns(b, two)); break;
            default: {
                int shape = shape();
                same("egg(" + shape + ", " + two + ")", is.egg(shape, two), due.egg(shape, two));
            }
        }
    }

    private void toldAndDeeds(int kind) {
        int b = block();
        int shelf = from(0, 5);
        int one = from(0, 1);
        switch (kind) {
            case 24: case 25: case 26:
                tellRow(shelf, b, draw.nextInt(3) == 0);
                same("judge(" + shelf + ", " + b + ")", is.judge(shelf, b), due.judge(shelf, b));
                same("filled(" + shelf + ", " + b + ", " + one + ")", is.filled(shelf, b, one), due.filled(shelf, b, one));
                same("last(" + shelf + ", " + b + ")", is.last(shelf, b), due.last(shelf, b));
                break;
            case 27: {
                int seed = draw.nextInt();
                int n = from(1, 50);
                int f = draw.nextBoolean() ? -1 : figure();
                String call = "drawn(" + b + ", " + seed + ", " + n + ", " + f + ")";
                same(call, is.drawn(b, seed, n, f), due.drawn(b, seed, n, f));
                break;
            }
            case 28: {
                int bf = two(b, figure());
                same("cut(" + bf + ")", is.cut(bf), due.cut(bf));
                break;
            }
            case 29: {
                int n = draw.nextInt(8) == 0 ? from(1, 99) : from(1, 5);
                same("pass(" + n + ")", is.pass(n), due.pass(n));
                break;
            }
            case 30: {
                int what = from(0, 3);
                same("led(" + what + ")", is.led(what), due.led(what));
                break;
            }
            case 31: same("image()", is.image(), due.image()); break;
            case 32: same("back()", is.back(), due.back()); break;
            case 33: same("undo()", is.undo(), due.undo()); break;
            default: same("redo()", is.redo(), due.redo());
        }
    }

    /** A row of bytes that is one of the longest row's beginnings, with some unknown, or one by chance. */
    private void tellRow(int shelf, int block, boolean byChance) {
        int longest = Math.max(0, due.longest(block, -1));
        int n = byChance ? draw.nextInt(5) : draw.nextInt(longest + 1);
        same("row(" + shelf + ", 0, " + n + ")", is.row(shelf, 0, n), due.row(shelf, 0, n));
        for (int i = 0; i < n; i++) {
            int v = byChance ? from(-1, 9) : due.longest(block, i);
            v = draw.nextInt(3) == 0 ? -1 : v;
            same("put(" + shelf + ", " + i + ", " + v + ")", is.put(shelf, i, v), due.put(shelf, i, v));
        }
    }

    private void actsAndShelves(int kind) {
        int shelf = from(0, 5);
        int i = from(0, 12);
        switch (kind) {
            case 35: {
                int k = from(0, 7);
                same("body(" + k + ")", is.body(k), due.body(k));
                break;
            }
            case 36: {
                int body = from(0, Math.max(0, due.count(4) - 1));
                int act = from(0, 3);
                int x = draw.nextBoolean() ? draw.nextInt() : draw.nextInt(10);
                same("act(" + body + ", " + act + ", " + x + ")", is.act(body, act, x), due.act(body, act, x));
                for (int t = 0; t < 4; t++) {
                    int at = from(0, 23);
                    same("trace(" + at + ")", is.trace(at), due.trace(at));
                }
                break;
            }
            case 37: {
                int body = from(-1, due.count(4) - 1);
                same("keep(" + shelf + ", " + body + ")", is.keep(shelf, body), due.keep(shelf, body));
                break;
            }
            case 38: {
                int sort = draw.nextBoolean() ? 2 : from(0, 4);
                int n = draw.nextInt(6) == 0 ? from(0, 60) : draw.nextInt(13) - draw.nextInt(2);
                same("row(" + shelf + ", " + sort + ", " + n + ")", is.row(shelf, sort, n), due.row(shelf, sort, n));
                break;
            }
            case 39: {
                long v = draw.nextBoolean() ? draw.nextLong() : 1L << draw.nextInt(64);
                same("put(" + shelf + ", " + i + ", " + v + ")", is.put(shelf, i, v), due.put(shelf, i, v));
                break;
            }
            case 40: same("element(" + shelf + ", " + i + ")", is.element(shelf, i), due.element(shelf, i)); break;
            case 41: {
                int other = draw.nextBoolean() ? shelf : from(0, 5);
                int j = from(0, 12);
                int n = from(0, 8);
                String call = "shift(" + shelf + ", " + i + ", " + other + ", " + j + ", " + n + ")";
                same(call, is.shift(shelf, i, other, j, n), due.shift(shelf, i, other, j, n));
                break;
            }
            case 42: {
                int k = from(0, 7);
                same("taken(" + shelf + ", " + k + ")", is.taken(shelf, k), due.taken(shelf, k));
                break;
            }
            case 43: {
                int what = from(0, 5);
                same("count(" + what + ")", is.count(what), due.count(what));
                break;
            }
            default: figuresFromRow(shelf);
        }
    }

    private void figuresFromRow(int shelf) {
        for (int i = 0; i < 6 && draw.nextInt(4) != 0; i++) {
            long v = i % 2 == 0 ? shape() : from(0, 999);
            same("put(" + shelf + ", " + i + ", " + v + ")", is.put(shelf, i, v), due.put(shelf, i, v));
        }
        int i = from(0, 4);
        int n = from(1, 10);
        same("figures(" + shelf + ", " + i + ", " + n + ")", is.figures(shelf, i, n), due.figures(shelf, i, n));
    }
}
