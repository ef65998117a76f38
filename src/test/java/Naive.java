import java.util.ArrayList;
import java.util.Collections;
import java.util.HashSet;
import java.util.List;
import java.util.Set;

/**
 * The document's words done in the slowest and plainest way, with the whole Java library: all rows are listed,
 * stones are real classes, the host's refusals are real exceptions. OracleTest holds the program against it.
 */
final class Naive {
    static final int BAD = -1, NOT = -2, FULL = -3, STATE = -5;

    // ---- shapes as sets of cells

    private static Set<List<Integer>> cells(int shape) {
        Set<List<Integer>> set = new HashSet<>();
        for (int bit = 0; bit < 25; bit++) {
            if ((shape & 1 << bit) != 0) {
                set.add(List.of(bit % 5, bit / 5));
            }
        }
        return set;
    }

    private static int number(Set<List<Integer>> cells) {
        int shape = 0;
        for (List<Integer> cell : cells) {
            shape += 1 << 5 * cell.get(1) + cell.get(0);
        }
        return shape;
    }

    private static Set<List<Integer>> moved(Set<List<Integer>> cells, int dx, int dy) {
        Set<List<Integer>> set = new HashSet<>();
        for (List<Integer> cell : cells) {
            set.add(List.of(cell.get(0) + dx, cell.get(1) + dy));
        }
        return set;
    }

    private static Set<List<Integer>> turnedCells(int shape, int n) {
        Set<List<Integer>> cells = cells(shape);
        for (int i = 0; i < n; i++) {
            Set<List<Integer>> next = new HashSet<>();
            for (List<Integer> cell : cells) {
                next.add(List.of(4 - cell.get(1), cell.get(0)));
            }
            cells = next;
        }
        int left = 9;
        int up = 9;
        for (List<Integer> cell : cells) {
            left = Math.min(left, cell.get(0));
            up = Math.min(up, cell.get(1));
        }
        return moved(cells, -left, -up);
    }

    private static boolean withinSquare(Set<List<Integer>> cells) {
        for (List<Integer> cell : cells) {
            if (cell.get(0) > 4 || cell.get(1) > 4) {
                return false;
            }
        }
        return true;
    }

    /** All WAYS by number. */
    private static List<Integer> waysOf(int shape, int in) {
        List<Integer> ways = new ArrayList<>();
        Set<List<Integer>> room = cells(in);
        for (int turn = 0; turn < 4; turn++) {
            Set<List<Integer>> form = turnedCells(shape, turn);
            for (int dy = 0; dy < 5; dy++) {
                for (int dx = 0; dx < 5; dx++) {
                    Set<List<Integer>> there = moved(form, dx, dy);
                    if (withinSquare(there) && room.containsAll(there)) {
                        ways.add(100 * turn + 10 * dy + dx);
                    }
                }
            }
        }
        return ways;
    }

    private static int byWay(int shape, int way) {
        return number(moved(turnedCells(shape, way / 100), way % 10, way / 10 % 10));
    }

    private static boolean cutOut(int shape, int of) {
        return cells(shape).size() < cells(of).size() && !waysOf(shape, of).isEmpty();
    }

    private static boolean isShape(int shape) {
        return shape >= 1 && shape <= 33554431;
    }

    // ---- the law, worked out from its text each time

    /** Reads a text by trying all ends of each part; a part's ends come with its value. */
    static final class Text {
        private final String text;
        private final int[] names;

        Text(String text, int[] names) {
            this.text = text;
            this.names = names;
        }

        /** A part that ends at 'end', with its value. */
        record Part(int end, int value) {
        }

        static boolean isOne(String text) {
            return !new Text(text, new int[6]).texts(0).isEmpty();
        }

        /** Whether some TEXT goes on behind this: an operand may lack, and brackets. */
        static boolean goesOn(String start) {
            for (String operand : new String[] {"", "1"}) {
                String brackets = "";
                for (int i = 0; i <= 6; i++) {
                    if (isOne(start + operand + brackets)) {
                        return true;
                    }
                    brackets += ")";
                }
            }
            return false;
        }

        static int fault(String text) {
            for (int i = 0; i < text.length(); i++) {
                if (!goesOn(text.substring(0, i + 1))) {
                    return i;
                }
            }
            return isOne(text) ? -1 : text.length();
        }

        static int value(String text, int[] names) {
            return new Text(text, names).texts(0).get(0);
        }

        private List<Integer> texts(int from) {
            List<Integer> values = new ArrayList<>();
            for (Part first : joined(0, from, 0)) {
                addLine(values, first.end, first.value, true);
                if (is(first.end, '?')) {
                    for (Part second : joined(0, first.end + 1, 0)) {
                        addLine(values, second.end, second.value, first.value != 0);
                    }
                }
            }
            return values;
        }

        private void addLine(List<Integer> values, int end, int value, boolean counts) {
            if (end == text.length()) {
                values.add(counts ? value : 0);
            } else if (is(end, ';')) {
                for (int later : texts(end + 1)) {
                    values.add(counts ? value : later);
                }
            }
        }

        private boolean is(int at, char sign) {
            return at < text.length() && text.charAt(at) == sign;
        }

        private List<Part> joined(int level, int from, int open) {
            if (level == 5) {
                return operands(from, open);
            }
            String signs = new String[] {"|", "&", "<=>", "+-", "*/%"}[level];
            List<Part> ready = new ArrayList<>();
            List<Part> last = joined(level + 1, from, open);
            for (int i = 0; !last.isEmpty(); i++) {
                ready.addAll(last);
                List<Part> next = new ArrayList<>();
                for (Part left : last) {
                    if (left.end < text.length() && signs.indexOf(text.charAt(left.end)) >= 0 && (level != 2 || i == 0)) {
                        for (Part right : joined(level + 1, left.end + 1, open)) {
                            next.add(new Part(right.end, join(text.charAt(left.end), left.value, right.value)));
                        }
                    }
                }
                last = next;
            }
            return ready;
        }

        private static int join(char sign, int l, int r) {
            switch (sign) {
                case '|': return l != 0 | r != 0 ? 1 : 0;
                case '&': return l != 0 & r != 0 ? 1 : 0;
                case '<': return l < r ? 1 : 0;
                case '=': return l == r ? 1 : 0;
                case '>': return l > r ? 1 : 0;
                case '+': return (int) ((long) l + r);
                case '-': return (int) ((long) l - r);
                case '*': return (int) ((long) l * r);
                case '/': return r == 0 ? 0 : (int) ((long) l / r);
                default: return r == 0 ? 0 : (int) ((long) l % r);
            }
        }

        private List<Part> operands(int from, int open) {
            List<Part> parts = new ArrayList<>();
            if (from >= text.length()) {
                return parts;
            }
            for (int digits = 1; digits <= 4 && from + digits <= text.length(); digits++) {
                String number = text.substring(from, from + digits);
                boolean longer = from + digits < text.length() && Character.isDigit(text.charAt(from + digits));
                if (number.matches("[0-9]+") && !longer) {
                    parts.add(new Part(from + digits, Integer.parseInt(number)));
                }
            }
            char sign = text.charAt(from);
            int name = "wfacnk".indexOf(sign);
            if (name >= 0) {
                parts.add(new Part(from + 1, names[name]));
            }
            if (open < 6 && (sign == '!' || sign == '-')) {
                for (Part part : operands(from + 1, open + 1)) {
                    parts.add(new Part(part.end, sign == '-' ? -part.value : part.value == 0 ? 1 : 0));
                }
            }
            if (open < 6 && sign == '(') {
                for (Part part : joined(0, from + 1, open + 1)) {
                    if (is(part.end, ')')) {
                        parts.add(new Part(part.end + 1, part.value));
                    }
                }
            }
            return parts;
        }
    }

    // ---- the state

    private final List<int[]> figures = new ArrayList<>();
    private final List<int[]> blocks = new ArrayList<>();
    private String tape = "";
    private String law = null;
    private int[] ledger = new int[4];
    private List<int[]> imageBlocks = null;
    private int[] imageLedger = null;
    private final List<int[]> done = new ArrayList<>();
    private final List<int[]> undone = new ArrayList<>();
    private final List<Stone> stones = new ArrayList<>();
    private final List<Integer> trace = new ArrayList<>();
    private final Object[] shelves = new Object[6];

    private boolean noFigure(int figure) {
        return figure < 0 || figure >= figures.size();
    }

    private boolean noBlock(int block) {
        return block < 0 || block >= blocks.size();
    }

    private boolean noTwo(int ab) {
        return ab < 0 || noFigure(ab / 10) || noFigure(ab % 10) || ab / 10 == ab % 10;
    }

    private int shapeOf(int figure) {
        return figures.get(figure)[3];
    }

    private static int bits(Iterable<Integer> set) {
        int bits = 0;
        for (int f : set) {
            bits |= 1 << f;
        }
        return bits;
    }

    private int add(int shape, int worth) {
        if (figures.size() == 10) {
            return FULL;
        }
        figures.add(new int[] {worth, 0, 0, shape});
        return figures.size() - 1;
    }

    private int worth(int figure, int year, int n) {
        int[] f = figures.get(figure);
        int away = Math.abs(year - f[2]);
        if (law == null) {
            return Math.max(0, f[0] - f[1] * away);
        }
        int value = Text.value(law, new int[] {f[0], f[1], away, cells(f[3]).size(), n, figure});
        return value < 0 ? 0 : value > 9999 ? 9999 : value;
    }

    // ---- figures, blocks

    int figure(int shape) {
        return isShape(shape) ? add(shape, 100) : BAD;
    }

    int figures(int shelf, int i, int n) {
        if (shelf < 0 || shelf > 5 || n < 1 || n > 10) {
            return BAD;
        }
        int came = 0;
        try {
            int[] row = (int[]) shelves[shelf];
            while (came < n) {
                int shape = row[i + 2 * came];
                int worth = row[i + 2 * came + 1];
                if (!isShape(shape) || worth < 0 || worth > 999 || add(shape, worth) == FULL) {
                    break;
                }
                came++;
            }
        } catch (ClassCastException e) {
            return -12;
        } catch (NullPointerException | IndexOutOfBoundsException e) {
            return came;
        }
        return came;
    }

    int block(int shape) {
        if (!isShape(shape)) {
            return BAD;
        }
        if (blocks.size() == 6) {
            return FULL;
        }
        blocks.add(new int[] {shape, 0});
        return blocks.size() - 1;
    }

    int mend(int number, int what, int v) {
        if (noFigure(number) || what < 0 || what > 2 || v < 0 || v > (what == 0 ? 999 : what == 1 ? 9 : 99)) {
            return BAD;
        }
        int was = figures.get(number)[what];
        if (was != v) {
            figures.get(number)[what] = v;
            done.add(new int[] {number, what, was, v});
            undone.clear();
            if (done.size() > 40) {
                done.remove(0);
            }
        }
        return was;
    }

    int of(int number, int what) {
        switch (what) {
            case 0: case 1: case 2: case 3: return noFigure(number) ? BAD : figures.get(number)[what];
            case 4: case 5: return noBlock(number) ? BAD : blocks.get(number)[what - 4];
            case 6: return number == 0 ? ledger[3] : BAD;
            default: return BAD;
        }
    }

    int feed(int letter) {
        if (letter < 0 || letter > 255) {
            return BAD;
        }
        if (tape.length() == 120) {
            return FULL;
        }
        tape += (char) letter;
        return tape.length();
    }

    int law() {
        int fault = Text.fault(tape);
        String read = tape;
        tape = "";
        if (fault >= 0) {
            return -100 - fault;
        }
        law = read;
        return 1;
    }

    int brings(int figure, int year, int n) {
        return noFigure(figure) || year < 0 || year > 99 || n < 0 || n > 99 ? BAD : worth(figure, year, n);
    }

    // ---- shapes

    int size(int figure, int what) {
        if (noFigure(figure) || what < 0 || what > 2) {
            return BAD;
        }
        int most = 0;
        Set<List<Integer>> form = turnedCells(shapeOf(figure), 0);
        for (List<Integer> cell : form) {
            most = Math.max(most, 1 + cell.get(what == 2 ? 1 : 0));
        }
        return what == 0 ? form.size() : most;
    }

    int turned(int figure, int n) {
        return noFigure(figure) || n < 0 || n > 3 ? BAD : number(turnedCells(shapeOf(figure), n));
    }

    int ways(int bf, int what) {
        if (bf < 0 || noBlock(bf / 10) || noFigure(bf % 10) || what < 0 || what > 2) {
            return BAD;
        }
        int left = blocks.get(bf / 10)[0];
        int shape = shapeOf(bf % 10);
        List<Integer> all = waysOf(shape, left);
        if (what == 0) {
            return all.size();
        }
        if (what == 1) {
            return all.isEmpty() ? NOT : all.get(0);
        }
        return cutOut(shape, left) ? cells(left).size() - cells(shape).size() : NOT;
    }

    int inside(int ab) {
        return noTwo(ab) ? BAD : cutOut(shapeOf(ab / 10), shapeOf(ab % 10)) ? 1 : 0;
    }

    int around(int figure, int what) {
        if (noFigure(figure) || what < 0 || what > 1) {
            return BAD;
        }
        List<Integer> set = new ArrayList<>();
        for (int f = 0; f < figures.size(); f++) {
            if (what == 0 ? cutOut(shapeOf(figure), shapeOf(f)) : cutOut(shapeOf(f), shapeOf(figure))) {
                set.add(f);
            }
        }
        return bits(set);
    }

    int common(int set) {
        if (set < 0 || set >= 1 << figures.size()) {
            return BAD;
        }
        List<Integer> all = new ArrayList<>();
        for (int f = 0; f < figures.size(); f++) {
            boolean ofAll = true;
            for (int g = 0; g < figures.size(); g++) {
                ofAll &= (set & 1 << g) == 0 || cutOut(shapeOf(f), shapeOf(g));
            }
            if (ofAll) {
                all.add(f);
            }
        }
        return bits(all);
    }

    // ---- rows of cuttings: all of them, the empty one too

    private List<List<Integer>> rowsOf(int shape) {
        List<List<Integer>> rows = new ArrayList<>();
        boolean[][] can = new boolean[11][10];
        for (int f = 0; f < figures.size(); f++) {
            for (int g = 0; g < figures.size(); g++) {
                can[f][g] = cutOut(shapeOf(g), shapeOf(f));
            }
            can[10][f] = cutOut(shapeOf(f), shape);
        }
        addRows(rows, new ArrayList<>(), can);
        return rows;
    }

    private static void addRows(List<List<Integer>> rows, List<Integer> row, boolean[][] can) {
        rows.add(new ArrayList<>(row));
        int end = row.isEmpty() ? 10 : row.get(row.size() - 1);
        for (int f = 0; f < 10; f++) {
            if (can[end][f]) {
                row.add(f);
                addRows(rows, row, can);
                row.remove(row.size() - 1);
            }
        }
    }

    private List<List<Integer>> rowsOfBlock(int block) {
        return rowsOf(blocks.get(block)[0]);
    }

    private static int byNumbers(List<Integer> a, List<Integer> b) {
        for (int i = 0; i < Math.min(a.size(), b.size()); i++) {
            if (!a.get(i).equals(b.get(i))) {
                return a.get(i) - b.get(i);
            }
        }
        return a.size() - b.size();
    }

    private static List<Integer> longestOf(List<List<Integer>> rows) {
        List<List<Integer>> sorted = new ArrayList<>(rows);
        sorted.sort((a, b) -> a.size() != b.size() ? b.size() - a.size() : byNumbers(a, b));
        return sorted.get(0);
    }

    int longest(int block, int k) {
        if (noBlock(block) || k < -1) {
            return BAD;
        }
        List<Integer> row = longestOf(rowsOfBlock(block));
        return k == -1 ? row.size() : k < row.size() ? row.get(k) : NOT;
    }

    int richest(int block, int year, int k) {
        if (noBlock(block) || year < 0 || year > 99 || k < -1) {
            return BAD;
        }
        List<Integer> best = null;
        int most = -1;
        int[][] worths = new int[10][10];
        for (int f = 0; f < figures.size(); f++) {
            for (int i = 0; i < 10; i++) {
                worths[f][i] = worth(f, year + i, i);
            }
        }
        for (List<Integer> row : rowsOfBlock(block)) {
            int sum = 0;
            for (int i = 0; i < row.size(); i++) {
                sum += worths[row.get(i)][i];
            }
            boolean before = best != null
                && (row.size() < best.size() || row.size() == best.size() && byNumbers(row, best) < 0);
            if (sum > most || sum == most && before) {
                best = row;
                most = sum;
            }
        }
        return k == -1 ? most : k < best.size() ? best.get(k) : NOT;
    }

    int with(int block, int ab) {
        if (noBlock(block) || noTwo(ab)) {
            return BAD;
        }
        int most = NOT;
        for (List<Integer> row : rowsOfBlock(block)) {
            if (row.contains(ab / 10) && row.contains(ab % 10)) {
                most = Math.max(most, row.size());
            }
        }
        return most;
    }

    int spare(int block, int what) {
        if (noBlock(block) || what < 0 || what > 1) {
            return BAD;
        }
        int best = NOT;
        int least = NOT;
        for (int f = 0; f < figures.size(); f++) {
            int most = 0;
            for (List<Integer> row : rowsOfBlock(block)) {
                if (!row.contains(f)) {
                    most = Math.max(most, row.size());
                }
            }
            if (best == NOT || most < least) {
                best = f;
                least = most;
            }
        }
        return what == 0 ? best : least;
    }

    int when(int figure, int what) {
        if (noFigure(figure) || what < 0 || what > 1) {
            return BAD;
        }
        int best = 0;
        for (int year = 1; year < 100; year++) {
            if (worth(figure, year, 0) > worth(figure, best, 0)) {
                best = year;
            }
        }
        return what == 0 ? best : worth(figure, best, 0);
    }

    int smallest(int ab, int what) {
        if (noTwo(ab) || what < 0 || what > 1) {
            return BAD;
        }
        int best = 33554431;
        List<Integer> others = new ArrayList<>();
        for (int way : waysOf(shapeOf(ab % 10), 33554431)) {
            others.add(byWay(shapeOf(ab % 10), way));
        }
        for (int way : waysOf(shapeOf(ab / 10), 33554431)) {
            int one = byWay(shapeOf(ab / 10), way);
            for (int other : others) {
                int both = one | other;
                int fewer = Integer.bitCount(both) - Integer.bitCount(best);
                if (fewer < 0 || fewer == 0 && both < best) {
                    best = both;
                }
            }
        }
        return what == 0 ? cells(best).size() : best;
    }

    int leave(int block, int what) {
        if (noBlock(block) || what < 0 || what > 1) {
            return BAD;
        }
        int best = NOT;
        int most = -1;
        List<List<Integer>> rows = rowsOfBlock(block);
        for (int f = 0; f < figures.size(); f++) {
            Set<Integer> had = new HashSet<>();
            boolean can = false;
            for (List<Integer> row : rows) {
                if (!row.isEmpty() && row.get(0) == f) {
                    can = true;
                    had.addAll(row.subList(1, row.size()));
                }
            }
            if (can && had.size() > most) {
                best = f;
                most = had.size();
            }
        }
        return best == NOT ? NOT : what == 0 ? best : most;
    }

    private List<Integer> cuttable(int shape) {
        List<Integer> set = new ArrayList<>();
        for (int f = 0; f < figures.size(); f++) {
            if (cutOut(shapeOf(f), shape)) {
                set.add(f);
            }
        }
        return set;
    }

    private boolean wins(int shape) {
        for (int f : cuttable(shape)) {
            if (!wins(shapeOf(f))) {
                return true;
            }
        }
        return false;
    }

    private int cuts(int shape) {
        boolean wins = wins(shape);
        List<Integer> lengths = new ArrayList<>();
        for (int f : cuttable(shape)) {
            if (!wins || !wins(shapeOf(f))) {
                lengths.add(1 + cuts(shapeOf(f)));
            }
        }
        return lengths.isEmpty() ? 0 : wins ? Collections.min(lengths) : Collections.max(lengths);
    }

    int byTurns(int block, int what) {
        if (noBlock(block) || what < 0 || what > 2) {
            return BAD;
        }
        int left = blocks.get(block)[0];
        if (what == 0) {
            return wins(left) ? 1 : 0;
        }
        if (what == 2) {
            return cuts(left);
        }
        for (int f : cuttable(left)) {
            if (!wins(shapeOf(f))) {
                return f;
            }
        }
        return NOT;
    }

    int egg(int shape, int what) {
        if (!isShape(shape) || what < 0 || what > 2) {
            return BAD;
        }
        if (what == 2) {
            return cells(shape).size();
        }
        Set<Integer> set = new HashSet<>();
        if (what == 0) {
            for (List<Integer> row : rowsOf(shape)) {
                set.addAll(row);
            }
        } else {
            for (int f = 0; f < figures.size(); f++) {
                if (!waysOf(shape, shapeOf(f)).isEmpty()) {
                    set.add(f);
                }
            }
        }
        return bits(set);
    }

    // ---- told, drawn

    private int refusal(int shelf, int block) {
        if (shelf < 0 || shelf > 5 || noBlock(block)) {
            return BAD;
        }
        return shelves[shelf] == null ? -11 : shelves[shelf] instanceof byte[] ? 0 : -12;
    }

    /** The rows as long as the first n of what is told that agree with them. */
    private List<List<Integer>> agreeing(byte[] told, int n, int block) {
        List<List<Integer>> rows = new ArrayList<>();
        for (List<Integer> row : rowsOfBlock(block)) {
            boolean agrees = row.size() == n;
            for (int i = 0; agrees && i < n; i++) {
                agrees = told[i] == -1 || told[i] == row.get(i);
            }
            if (agrees) {
                rows.add(row);
            }
        }
        return rows;
    }

    int judge(int shelf, int block) {
        int refusal = refusal(shelf, block);
        if (refusal != 0) {
            return refusal;
        }
        byte[] told = (byte[]) shelves[shelf];
        for (int i = 0; i < told.length; i++) {
            if (agreeing(told, i + 1, block).isEmpty()) {
                return i;
            }
        }
        return NOT;
    }

    int filled(int shelf, int block, int what) {
        int refusal = what < 0 || what > 1 ? BAD : refusal(shelf, block);
        if (refusal != 0) {
            return refusal;
        }
        byte[] told = (byte[]) shelves[shelf];
        List<List<Integer>> rows = agreeing(told, told.length, block);
        if (what == 0) {
            return Math.min(9999, rows.size());
        }
        for (int i = 0; i < told.length && !rows.isEmpty(); i++) {
            if (told[i] == -1) {
                rows.sort(Naive::byNumbers);
                return rows.get(0).get(i);
            }
        }
        return NOT;
    }

    int last(int shelf, int block) {
        int refusal = refusal(shelf, block);
        if (refusal != 0) {
            return refusal;
        }
        byte[] told = (byte[]) shelves[shelf];
        Set<Integer> set = new HashSet<>();
        for (List<Integer> row : agreeing(told, told.length, block)) {
            if (!row.isEmpty()) {
                set.add(row.get(row.size() - 1));
            }
        }
        return bits(set);
    }

    int drawn(int block, int seed, int n, int figure) {
        if (noBlock(block) || n < 1 || n > 50 || figure != -1 && noFigure(figure)) {
            return BAD;
        }
        int z = seed;
        int all = 0;
        int ends = 0;
        for (int i = 0; i < n; i++) {
            List<Integer> can = cuttable(blocks.get(block)[0]);
            int end = -1;
            while (!can.isEmpty()) {
                z = z * 1103515245 + 12345;
                end = can.get((z >>> 8) % can.size());
                can = cuttable(shapeOf(end));
                all++;
            }
            ends += end == figure ? 1 : 0;
        }
        return figure == -1 ? all : ends;
    }

    // ---- in deed

    int cut(int bf) {
        if (bf < 0 || noBlock(bf / 10) || noFigure(bf % 10)) {
            return BAD;
        }
        int[] block = blocks.get(bf / 10);
        int shape = shapeOf(bf % 10);
        if (!cutOut(shape, block[0])) {
            return STATE;
        }
        int brought = worth(bf % 10, ledger[3], block[1]);
        ledger[0]++;
        ledger[1] += cells(block[0]).size() - cells(shape).size();
        ledger[2] += brought;
        block[0] = byWay(shape, waysOf(shape, block[0]).get(0));
        block[1]++;
        return brought;
    }

    int pass(int n) {
        if (n < 1 || n > 99) {
            return BAD;
        }
        if (ledger[3] + n > 99) {
            return STATE;
        }
        return ledger[3] += n;
    }

    int led(int what) {
        return what < 0 || what > 3 ? BAD : ledger[what];
    }

    int image() {
        imageLedger = ledger.clone();
        imageBlocks = new ArrayList<>();
        for (int[] block : blocks) {
            imageBlocks.add(block.clone());
        }
        return ledger[0];
    }

    int back() {
        if (imageLedger == null) {
            return STATE;
        }
        ledger = imageLedger.clone();
        for (int i = 0; i < imageBlocks.size(); i++) {
            blocks.set(i, imageBlocks.get(i).clone());
        }
        return ledger[0];
    }

    int undo() {
        if (done.isEmpty()) {
            return STATE;
        }
        int[] change = done.remove(done.size() - 1);
        undone.add(change);
        figures.get(change[0])[change[1]] = change[2];
        return done.size();
    }

    int redo() {
        if (undone.isEmpty()) {
            return STATE;
        }
        int[] change = undone.remove(undone.size() - 1);
        done.add(change);
        figures.get(change[0])[change[1]] = change[3];
        return undone.size();
    }

    // ---- acts: the host's own inheritance

    interface Cuts {
        int n();

        void ran(int body);

        default int cuts(int x) {
            ran(1);
            return x + n();
        }
    }

    interface Tells {
        void ran(int body);

        int holds(int x);

        int leaves(int x);

        default int tells(int x) {
            ran(2);
            return holds(x) - leaves(1);
        }
    }

    static class Stone implements Cuts, Tells {
        List<Integer> trace;
        int number;
        int kind;

        public int n() {
            return number;
        }

        public void ran(int body) {
            trace.add(body);
        }

        public int holds(int x) {
            ran(10);
            return cuts(x) * 2;
        }

        public int leaves(int x) {
            ran(11);
            return x ^ n();
        }
    }

    static class Arm extends Stone {
        public int cuts(int x) {
            ran(20);
            return super.cuts(x) + 3;
        }
    }

    static class Knee extends Stone {
        public int holds(int x) {
            ran(30);
            return -super.holds(x);
        }
    }

    static class Hand extends Knee {
        public int leaves(int x) {
            ran(40);
            return super.leaves(x) * 3;
        }

        public int holds(int x) {
            ran(41);
            return super.holds(x + 1);
        }
    }

    static class Venus extends Arm {
        public int leaves(int x) {
            ran(50);
            return super.leaves(x) - cuts(2);
        }
    }

    static class Egg extends Hand {
        public int tells(int x) {
            ran(60);
            return super.tells(x) ^ 5;
        }
    }

    static class Dust extends Stone {
        public int cuts(int x) {
            ran(70);
            return super.cuts(x) * 2;
        }
    }

    static class Bishop extends Venus {
        public int holds(int x) {
            ran(80);
            return super.holds(x) + leaves(2);
        }

        public int tells(int x) {
            ran(81);
            return super.tells(x) - 1;
        }
    }

    private static Stone stone(int kind) {
        switch (kind) {
            case 0: return new Stone();
            case 1: return new Arm();
            case 2: return new Knee();
            case 3: return new Hand();
            case 4: return new Venus();
            case 5: return new Egg();
            case 6: return new Dust();
            default: return new Bishop();
        }
    }

    int body(int kind) {
        if (kind < 0 || kind > 7) {
            return BAD;
        }
        if (stones.size() == 50) {
            return FULL;
        }
        Stone stone = stone(kind);
        stone.trace = trace;
        stone.number = stones.size();
        stone.kind = kind;
        stones.add(stone);
        return stone.number;
    }

    int act(int body, int act, int x) {
        trace.clear();
        if (body < 0 || body >= stones.size()) {
            return 0;
        }
        Stone stone = stones.get(body);
        switch (act) {
            case 0: return stone.cuts(x);
            case 1: return stone.holds(x);
            case 2: return stone.leaves(x);
            case 3: return stone.tells(x);
            default: return 0;
        }
    }

    int trace(int i) {
        return i >= 0 && i < 24 && i < trace.size() ? trace.get(i) : BAD;
    }

    // ---- shelves: the host's own rows

    int keep(int shelf, int body) {
        if (shelf < 0 || shelf > 5 || body < -1 || body >= stones.size()) {
            return BAD;
        }
        shelves[shelf] = body == -1 ? null : stones.get(body);
        return 1;
    }

    int row(int shelf, int sort, int n) {
        if (shelf < 0 || shelf > 5 || sort < 0 || sort > 4 || n > 60) {
            return BAD;
        }
        try {
            switch (sort) {
                case 0: shelves[shelf] = new byte[n]; break;
                case 1: shelves[shelf] = new short[n]; break;
                case 2: shelves[shelf] = new int[n]; break;
                case 3: shelves[shelf] = new long[n]; break;
                default: shelves[shelf] = new boolean[n]; break;
            }
        } catch (NegativeArraySizeException e) {
            return -14;
        }
        return 1;
    }

    int put(int shelf, int i, long v) {
        if (shelf < 0 || shelf > 5) {
            return BAD;
        }
        Object row = shelves[shelf];
        if (row == null) {
            return -11;
        }
        try {
            if (row instanceof byte[] r) {
                r[i] = (byte) v;
            } else if (row instanceof short[] r) {
                r[i] = (short) v;
            } else if (row instanceof int[] r) {
                r[i] = (int) v;
            } else if (row instanceof long[] r) {
                r[i] = v;
            } else if (row instanceof boolean[] r) {
                r[i] = v != 0;
            } else {
                return -12;
            }
        } catch (IndexOutOfBoundsException e) {
            return -13;
        }
        return 1;
    }

    long element(int shelf, int i) {
        if (shelf < 0 || shelf > 5) {
            return Long.MIN_VALUE;
        }
        Object row = shelves[shelf];
        try {
            if (row instanceof boolean[] r) {
                return r[i] ? 1 : 0;
            }
            return java.lang.reflect.Array.getLong(row, i);
        } catch (NullPointerException | IllegalArgumentException | IndexOutOfBoundsException e) {
            return Long.MIN_VALUE;
        }
    }

    int shift(int shelf, int i, int other, int j, int n) {
        if (shelf < 0 || shelf > 5 || other < 0 || other > 5) {
            return BAD;
        }
        try {
            System.arraycopy(shelves[shelf], i, shelves[other], j, n);
        } catch (NullPointerException e) {
            return -11;
        } catch (ArrayStoreException e) {
            return -12;
        } catch (IndexOutOfBoundsException e) {
            return -13;
        }
        return n;
    }

    int taken(int shelf, int k) {
        if (shelf < 0 || shelf > 5 || k < 0 || k > 7) {
            return BAD;
        }
        try {
            return ((Stone) stone(k).getClass().cast(shelves[shelf])).kind;
        } catch (ClassCastException e) {
            return -12;
        } catch (NullPointerException e) {
            return -11;
        }
    }

    int count(int what) {
        switch (what) {
            case 0: return figures.size();
            case 1: return blocks.size();
            case 2: return tape.length();
            case 3: return done.size();
            case 4: return stones.size();
            case 5: return trace.size();
            default: return BAD;
        }
    }
}
