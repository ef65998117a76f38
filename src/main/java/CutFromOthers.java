/** Figures that are cut one out of another; what each call promises stands in DOC.md. */
public final class CutFromOthers {
    public static final int BAD = -1, NOT = -2, FULL = -3, STATE = -5, VOID = -2000000000;

    private static final int NOTHING_THERE = -11, OTHER_KIND = -12, NO_PLACE = -13, BELOW_ZERO = -14;
    private static final int SQUARE = 33554431;
    private static final int LAST_YEAR = 99;
    private static final int MOST_FIGURES = 10;
    private static final int TRAITS = 3;
    private static final int[] MOST_OF_TRAIT = {999, 9, 99};
    private static final int FIRST_WORTH = 100;

    private final Stock stock = new Stock();
    private final Tape tape = new Tape();
    private final Rule rule = new Rule();
    private final Rows rows = new Rows(stock, rule);
    private final Told told = new Told(stock);
    private final Yard yard = new Yard();
    private final Changes changes = new Changes();
    private final Stones stones = new Stones();
    private final Shelves shelves = new Shelves();
    private final Form guest = new Form();

    public CutFromOthers() {
    }

    // ---- figures, blocks

    public int figure(int shape) {
        if (!isShape(shape)) {
            return BAD;
        }
        return stock.add(shape, FIRST_WORTH);
    }

    public int figures(int shelf, int i, int n) {
        if (!shelves.has(shelf) || n < 1 || n > MOST_FIGURES) {
            return BAD;
        }
        if (shelves.sortOf(shelf) == Shelves.NONE) {
            return 0;
        }
        if (shelves.sortOf(shelf) != Shelves.INTS) {
            return OTHER_KIND;
        }
        return figuresCome(shelf, i, n);
    }

    public int block(int shape) {
        if (!isShape(shape)) {
            return BAD;
        }
        return yard.add(shape);
    }

    public int mend(int number, int what, int v) {
        if (!stock.has(number) || what < 0 || what >= TRAITS || v < 0 || v > MOST_OF_TRAIT[what]) {
            return BAD;
        }
        int was = stock.traitOf(number, what);
        if (was != v) {
            stock.setTrait(number, what, v);
            changes.add(number, what, was, v);
        }
        return was;
    }

    public int of(int number, int what) {
        if (what >= 0 && what < TRAITS && stock.has(number)) {
            return stock.traitOf(number, what);
        }
        if (what == 3 && stock.has(number)) {
            return stock.formOf(number).shape;
        }
        if (what == 4 && yard.has(number)) {
            return yard.leftOf(number);
        }
        if (what == 5 && yard.has(number)) {
            return yard.cutsOf(number);
        }
        return what == 6 && number == 0 ? yard.ledger(Yard.NOW) : BAD;
    }

    public int feed(int letter) {
        if (letter < 0 || letter > 255) {
            return BAD;
        }
        return tape.add(letter);
    }

    public int law() {
        int fault = tape.read();
        tape.clear();
        if (fault != NOT) {
            return -100 - fault;
        }
        rule.take(tape);
        return 1;
    }

    public int brings(int figure, int year, int n) {
        if (!stock.has(figure) || !isYear(year) || n < 0 || n > 99) {
            return BAD;
        }
        return rule.worthOf(stock, figure, year, n);
    }

    // ---- shapes

    public int size(int figure, int what) {
        if (!stock.has(figure) || what < 0 || what > 2) {
            return BAD;
        }
        Form form = stock.formOf(figure);
        if (what == 0) {
            return form.cells;
        }
        return what == 1 ? Form.wide(form.turns[0]) : Form.tall(form.turns[0]);
    }

    public int turned(int figure, int n) {
        return stock.has(figure) && n >= 0 && n < Form.TURNS ? stock.formOf(figure).turns[n] : BAD;
    }

    public int ways(int bf, int what) {
        if (!isBlockAndFigure(bf) || what < 0 || what > 2) {
            return BAD;
        }
        int left = yard.leftOf(bf / 10);
        Form form = stock.formOf(bf % 10);
        if (what == 0) {
            return form.countWays(left);
        }
        if (what == 1) {
            int first = form.firstPlace(left);
            return first == NOT ? NOT : form.wayAt(first);
        }
        return form.canBeCutOf(left) ? Integer.bitCount(left) - form.cells : NOT;
    }

    public int inside(int ab) {
        if (!isTwoFigures(ab)) {
            return BAD;
        }
        return holds(stock.outOf(ab % 10), ab / 10) ? 1 : 0;
    }

    public int around(int figure, int what) {
        if (!stock.has(figure) || what < 0 || what > 1) {
            return BAD;
        }
        return what == 0 ? stock.above(figure) : stock.outOf(figure);
    }

    public int common(int set) {
        if (set < 0 || (set & ~stock.all()) != 0) {
            return BAD;
        }
        int both = stock.all();
        for (int f = 0; f < MOST_FIGURES; f++) {
            if (holds(set, f)) {
                both &= stock.outOf(f);
            }
        }
        return both;
    }

    // ---- rows of cuttings

    public int longest(int block, int k) {
        if (!yard.has(block) || k < -1) {
            return BAD;
        }
        int first = firstOutOf(block);
        rows.measure(stock.all());
        return k == -1 ? rows.longestOf(first) : rows.inLongest(first, k);
    }

    public int richest(int block, int year, int k) {
        if (!yard.has(block) || !isYear(year) || k < -1) {
            return BAD;
        }
        int first = firstOutOf(block);
        rows.weigh(year);
        return k == -1 ? rows.mostOf(first) : rows.inRichest(first, k);
    }

    public int with(int block, int ab) {
        if (!yard.has(block) || !isTwoFigures(ab)) {
            return BAD;
        }
        return rows.longestWith(firstOutOf(block), ab / 10, ab % 10);
    }

    public int spare(int block, int what) {
        if (!yard.has(block) || what < 0 || what > 1) {
            return BAD;
        }
        if (stock.came() == 0) {
            return NOT;
        }
        int first = firstOutOf(block);
        int best = 0;
        int least = rows.longestWithout(first, 0);
        for (int f = 1; f < stock.came(); f++) {
            int length = rows.longestWithout(first, f);
            if (length < least) {
                best = f;
                least = length;
            }
        }
        return what == 0 ? best : least;
    }

    public int when(int figure, int what) {
        if (!stock.has(figure) || what < 0 || what > 1) {
            return BAD;
        }
        int best = 0;
        int most = -1;
        for (int year = 0; year <= LAST_YEAR; year++) {
            int worth = rule.worthOf(stock, figure, year, 0);
            if (worth > most) {
                best = year;
                most = worth;
            }
        }
        return what == 0 ? best : most;
    }

    public int smallest(int ab, int what) {
        if (!isTwoFigures(ab) || what < 0 || what > 1) {
            return BAD;
        }
        int shape = stock.formOf(ab / 10).leastWith(stock.formOf(ab % 10));
        return what == 0 ? Integer.bitCount(shape) : shape;
    }

    public int leave(int block, int what) {
        if (!yard.has(block) || what < 0 || what > 1) {
            return BAD;
        }
        int first = firstOutOf(block);
        int best = NOT;
        int most = -1;
        for (int f = 0; f < MOST_FIGURES; f++) {
            // what FITS a part FITS the whole, so any row's end is out of its beginning at once
            if (holds(first, f) && Integer.bitCount(stock.outOf(f)) > most) {
                best = f;
                most = Integer.bitCount(stock.outOf(f));
            }
        }
        return what == 0 || best == NOT ? best : most;
    }

    public int byTurns(int block, int what) {
        if (!yard.has(block) || what < 0 || what > 2) {
            return BAD;
        }
        int first = firstOutOf(block);
        rows.play();
        int winning = rows.firstWinning(first);
        if (what == 0) {
            return winning == NOT ? 0 : 1;
        }
        return what == 1 ? winning : rows.cutsPlayed(first);
    }

    public int egg(int shape, int what) {
        if (!isShape(shape) || what < 0 || what > 2) {
            return BAD;
        }
        if (what == 0) {
            return stock.cuttableOf(shape);
        }
        return what == 1 ? partOf(shape) : Integer.bitCount(shape);
    }

    // ---- told, drawn

    public int judge(int shelf, int block) {
        int refusal = refusalOfTold(shelf, block);
        if (refusal != 0) {
            return refusal;
        }
        return told.firstWrong(shelves, shelf, firstOutOf(block), -1, -1);
    }

    public int filled(int shelf, int block, int what) {
        int refusal = what < 0 || what > 1 ? BAD : refusalOfTold(shelf, block);
        if (refusal != 0) {
            return refusal;
        }
        int first = firstOutOf(block);
        return what == 0 ? told.countFillings(shelves, shelf, first) : told.firstFilling(shelves, shelf, first);
    }

    public int last(int shelf, int block) {
        int refusal = refusalOfTold(shelf, block);
        if (refusal != 0) {
            return refusal;
        }
        return told.lastOnes(shelves, shelf, firstOutOf(block));
    }

    public int drawn(int block, int seed, int n, int figure) {
        if (!yard.has(block) || n < 1 || n > 50 || figure != -1 && !stock.has(figure)) {
            return BAD;
        }
        return rows.draw(firstOutOf(block), seed, n, figure);
    }

    // ---- in deed

    public int cut(int bf) {
        if (!isBlockAndFigure(bf)) {
            return BAD;
        }
        int block = bf / 10;
        int figure = bf % 10;
        Form form = stock.formOf(figure);
        int left = yard.leftOf(block);
        if (!form.canBeCutOf(left)) {
            return STATE;
        }
        int brought = rule.worthOf(stock, figure, yard.ledger(Yard.NOW), yard.cutsOf(block));
        yard.take(block, form.shapeAt(form.firstPlace(left)), brought);
        return brought;
    }

    public int pass(int n) {
        if (n < 1 || n > LAST_YEAR) {
            return BAD;
        }
        return yard.letPass(n);
    }

    public int led(int what) {
        return what >= 0 && what < Yard.LEDGER ? yard.ledger(what) : BAD;
    }

    public int image() {
        yard.store();
        return yard.ledger(Yard.CUTS);
    }

    public int back() {
        return yard.restore() ? yard.ledger(Yard.CUTS) : STATE;
    }

    public int undo() {
        return changes.takeBack(stock);
    }

    public int redo() {
        return changes.doAgain(stock);
    }

    // ---- acts, shelves

    public int body(int kind) {
        return kind >= 0 && kind < Stones.KINDS ? stones.add(kind) : BAD;
    }

    public int act(int body, int act, int x) {
        return stones.start(body, act, x);
    }

    public int trace(int i) {
        return stones.traced(i);
    }

    public int keep(int shelf, int body) {
        if (!shelves.has(shelf) || body != -1 && !stones.has(body)) {
            return BAD;
        }
        shelves.set(shelf, body == -1 ? Shelves.NONE : Shelves.STONE, body);
        return 1;
    }

    public int row(int shelf, int sort, int n) {
        if (!shelves.has(shelf) || sort < 0 || sort >= Shelves.SORTS || n > Shelves.LONGEST_ROW) {
            return BAD;
        }
        if (n < 0) {
            return BELOW_ZERO;
        }
        shelves.set(shelf, sort, n);
        shelves.empty(shelf);
        return 1;
    }

    public int put(int shelf, int i, long v) {
        int refusal = refusalOfElement(shelf, i);
        if (refusal != 0) {
            return refusal;
        }
        shelves.write(shelf, i, v);
        return 1;
    }

    public long element(int shelf, int i) {
        return refusalOfElement(shelf, i) == 0 ? shelves.at(shelf, i) : Long.MIN_VALUE;
    }

    public int shift(int shelf, int i, int other, int j, int n) {
        if (!shelves.has(shelf) || !shelves.has(other)) {
            return BAD;
        }
        if (shelves.sortOf(shelf) == Shelves.NONE || shelves.sortOf(other) == Shelves.NONE) {
            return NOTHING_THERE;
        }
        if (!shelves.isRow(shelf) || shelves.sortOf(shelf) != shelves.sortOf(other)) {
            return OTHER_KIND;
        }
        if (!shelves.hasStretch(shelf, i, n) || !shelves.hasStretch(other, j, n)) {
            return NO_PLACE;
        }
        shelves.copy(shelf, i, other, j, n);
        return n;
    }

    public int taken(int shelf, int k) {
        if (!shelves.has(shelf) || k < 0 || k >= Stones.KINDS) {
            return BAD;
        }
        if (shelves.sortOf(shelf) == Shelves.NONE) {
            return NOTHING_THERE;
        }
        if (shelves.sortOf(shelf) != Shelves.STONE) {
            return OTHER_KIND;
        }
        int kind = stones.kindOf(shelves.sizeOf(shelf));
        return Stones.isUnder(kind, k) ? kind : OTHER_KIND;
    }

    public int count(int what) {
        switch (what) {
            case 0: return stock.came();
            case 1: return yard.blocks();
            case 2: return tape.length();
            case 3: return changes.done();
            case 4: return stones.kept();
            case 5: return stones.ran();
            default: return BAD;
        }
    }

    // ---- what several calls ask

    private static boolean isShape(int bits) {
        return bits > 0 && bits <= SQUARE;
    }

    private static boolean isYear(int year) {
        return year >= 0 && year <= LAST_YEAR;
    }

    private static boolean holds(int set, int figure) {
        return (set >> figure & 1) == 1;
    }

    private boolean isBlockAndFigure(int bf) {
        return bf >= 0 && yard.has(bf / 10) && stock.has(bf % 10);
    }

    private boolean isTwoFigures(int ab) {
        return ab >= 0 && stock.has(ab / 10) && stock.has(ab % 10) && ab / 10 != ab % 10;
    }

    private int firstOutOf(int block) {
        return stock.cuttableOf(yard.leftOf(block));
    }

    private int partOf(int shape) {
        guest.take(shape);
        int of = 0;
        for (int f = 0; f < stock.came(); f++) {
            if (guest.firstPlace(stock.formOf(f).shape) != NOT) {
                of |= 1 << f;
            }
        }
        return of;
    }

    private int figuresCome(int shelf, int i, int n) {
        int came = 0;
        for (int k = 0; k < n; k++) {
            if (!shelves.hasStretch(shelf, i, 2 * k + 2)) {
                break;
            }
            int shape = (int) shelves.at(shelf, i + 2 * k);
            int worth = (int) shelves.at(shelf, i + 2 * k + 1);
            if (!isShape(shape) || worth < 0 || worth > MOST_OF_TRAIT[0] || stock.add(shape, worth) == FULL) {
                break;
            }
            came++;
        }
        return came;
    }

    private int refusalOfTold(int shelf, int block) {
        if (!shelves.has(shelf) || !yard.has(block)) {
            return BAD;
        }
        if (shelves.sortOf(shelf) == Shelves.NONE) {
            return NOTHING_THERE;
        }
        return shelves.sortOf(shelf) == Shelves.BYTES ? 0 : OTHER_KIND;
    }

    private int refusalOfElement(int shelf, int i) {
        if (!shelves.has(shelf)) {
            return BAD;
        }
        if (shelves.sortOf(shelf) == Shelves.NONE) {
            return NOTHING_THERE;
        }
        if (!shelves.isRow(shelf)) {
            return OTHER_KIND;
        }
        return shelves.hasStretch(shelf, i, 1) ? 0 : NO_PLACE;
    }

    /** A SHAPE with its turned forms and all places that these can have in the square, by WAYS. */
    private static final class Form {
        static final int TURNS = 4;
        private static final int SIDE = 5;
        private static final int TOP_ROW = 31;
        private static final int LEFT_COLUMN = 1082401;
        private static final int MOST_PLACES = 100;

        private final int[] turns = new int[TURNS];
        private final int[] places = new int[MOST_PLACES];
        private final int[] wayNumbers = new int[MOST_PLACES];
        private int shape;
        private int cells;
        private int placed;

        void take(int bits) {
            shape = bits;
            cells = Integer.bitCount(bits);
            placed = 0;
            int form = bits;
            for (int turn = 0; turn < TURNS; turn++) {
                turns[turn] = cornered(form);
                addPlaces(turn);
                form = turnedOnce(form);
            }
        }

        int countWays(int in) {
            int found = 0;
            for (int p = 0; p < placed; p++) {
                if ((places[p] & ~in) == 0) {
                    found++;
                }
            }
            return found;
        }

        /** The index of the first place within a shape; NOT. */
        int firstPlace(int in) {
            for (int p = 0; p < placed; p++) {
                if ((places[p] & ~in) == 0) {
                    return p;
                }
            }
            return NOT;
        }

        int wayAt(int p) {
            return p >= 0 && p < placed ? wayNumbers[p] : NOT;
        }

        int shapeAt(int p) {
            return p >= 0 && p < placed ? places[p] : shape;
        }

        boolean canBeCutOf(int in) {
            return cells < Integer.bitCount(in) && firstPlace(in) != NOT;
        }

        /** The shape of fewest cells (of like ones the least) that this and another one fit. */
        int leastWith(Form other) {
            int best = SQUARE;
            int fewest = SIDE * SIDE;
            int mine = unlikePlaces();
            int others = other.unlikePlaces();
            for (int p = 0; p < mine; p++) {
                for (int q = 0; q < others; q++) {
                    int union = places[p] | other.places[q];
                    int size = Integer.bitCount(union);
                    if (size < fewest || size == fewest && union < best) {
                        fewest = size;
                        best = union;
                    }
                }
            }
            return best;
        }

        static int wide(int form) {
            int wide = 1;
            for (int x = 1; x < SIDE; x++) {
                if ((form & LEFT_COLUMN << x) != 0) {
                    wide = x + 1;
                }
            }
            return wide;
        }

        static int tall(int form) {
            int tall = 1;
            for (int y = 1; y < SIDE; y++) {
                if ((form & TOP_ROW << SIDE * y) != 0) {
                    tall = y + 1;
                }
            }
            return tall;
        }

        /** Turns repeat after one, two or four, so the places behind the first repeat bring nothing new. */
        private int unlikePlaces() {
            if (turns[1] == turns[0]) {
                return placed / 4;
            }
            return turns[2] == turns[0] ? placed / 2 : placed;
        }

        private void addPlaces(int turn) {
            int form = turns[turn];
            int right = SIDE - wide(form);
            int down = SIDE - tall(form);
            for (int dy = 0; dy <= down; dy++) {
                for (int dx = 0; dx <= right && placed < MOST_PLACES; dx++) {
                    places[placed] = form << SIDE * dy + dx;
                    wayNumbers[placed] = 100 * turn + 10 * dy + dx;
                    placed++;
                }
            }
        }

        private static int cornered(int bits) {
            int form = bits;
            for (int up = 1; up < SIDE && (form & TOP_ROW) == 0; up++) {
                form >>= SIDE;
            }
            for (int left = 1; left < SIDE && (form & LEFT_COLUMN) == 0; left++) {
                form >>= 1;
            }
            return form;
        }

        private static int turnedOnce(int bits) {
            int form = 0;
            for (int y = 0; y < SIDE; y++) {
                for (int x = 0; x < SIDE; x++) {
                    if ((bits >> SIDE * y + x & 1) == 1) {
                        form |= 1 << SIDE * x + SIDE - 1 - y;
                    }
                }
            }
            return form;
        }
    }

    /** The FIGURES, and which of them can be cut out of which. */
    private static final class Stock {
        private final Form[] forms = new Form[MOST_FIGURES];
        private final int[] traits = new int[MOST_FIGURES * TRAITS];
        private final int[] below = new int[MOST_FIGURES];
        private final int[] byCells = new int[MOST_FIGURES];
        private int came;

        Stock() {
            for (int f = 0; f < MOST_FIGURES; f++) {
                forms[f] = new Form();
            }
        }

        int came() {
            return came;
        }

        boolean has(int figure) {
            return figure >= 0 && figure < came;
        }

        int all() {
            return (1 << came) - 1;
        }

        Form formOf(int figure) {
            return forms[figure];
        }

        int traitOf(int figure, int what) {
            return traits[figure * TRAITS + what];
        }

        void setTrait(int figure, int what, int v) {
            traits[figure * TRAITS + what] = v;
        }

        /** Which can be cut out of a FIGURE. */
        int outOf(int figure) {
            return below[figure];
        }

        /** The i-th FIGURE, those of fewest cells first. */
        int bySize(int i) {
            return byCells[i];
        }

        int add(int shape, int worth) {
            if (came >= MOST_FIGURES) {
                return FULL;
            }
            int fresh = came;
            forms[fresh].take(shape);
            setTrait(fresh, 0, worth);
            came++;
            relate(fresh);
            sortIn(fresh);
            return fresh;
        }

        int cuttableOf(int shape) {
            int set = 0;
            for (int f = 0; f < came; f++) {
                if (forms[f].canBeCutOf(shape)) {
                    set |= 1 << f;
                }
            }
            return set;
        }

        /** Out of which a FIGURE can be cut. */
        int above(int figure) {
            int set = 0;
            for (int f = 0; f < came; f++) {
                if (holds(below[f], figure)) {
                    set |= 1 << f;
                }
            }
            return set;
        }

        int outOfAny(int set) {
            int any = 0;
            for (int f = 0; f < came; f++) {
                if (holds(set, f)) {
                    any |= below[f];
                }
            }
            return any;
        }

        private void relate(int fresh) {
            below[fresh] = cuttableOf(forms[fresh].shape);
            for (int f = 0; f < fresh; f++) {
                if (forms[fresh].canBeCutOf(forms[f].shape)) {
                    below[f] |= 1 << fresh;
                }
            }
        }

        private void sortIn(int fresh) {
            int at = fresh;
            while (at > 0 && forms[byCells[at - 1]].cells > forms[fresh].cells) {
                byCells[at] = byCells[at - 1];
                at--;
            }
            byCells[at] = fresh;
        }
    }

    /** THE TAPE, and the reading of its text into code: numbers as they are, all else below 0. */
    private static final class Tape {
        static final int MOST_CODE = 256;
        static final int END = -1, SKIP = -2, MINUS_OF = -3, NOT_OF = -4, NAME = -1000;
        private static final int MOST_BYTES = 120;
        private static final int MOST_OPEN = 6;
        private static final int MOST_DIGITS = 4;
        private static final int COMPARING = 2, OPERAND = 5;

        private final int[] bytes = new int[MOST_BYTES];
        private final int[] code = new int[MOST_CODE];
        private int fed;
        private int at;
        private int written;

        int length() {
            return fed;
        }

        int add(int letter) {
            if (fed >= MOST_BYTES) {
                return FULL;
            }
            bytes[fed] = letter;
            fed++;
            return fed;
        }

        void clear() {
            fed = 0;
        }

        /** The FAULT, or NOT: every byte is taken as soon as it can be, so it is where the reading stands. */
        int read() {
            at = 0;
            written = 0;
            for (int lines = 0; lines <= MOST_BYTES; lines++) {
                if (!readLine()) {
                    return at;
                }
                if (at == fed) {
                    return NOT;
                }
                if (!accepts(';')) {
                    return at;
                }
            }
            return at;
        }

        int copyCode(int[] to) {
            System.arraycopy(code, 0, to, 0, written);
            return written;
        }

        private boolean readLine() {
            if (!readJoined(0, 0)) {
                return false;
            }
            if (!accepts('?')) {
                write(END);
                return true;
            }
            write(SKIP);
            int hole = written;
            write(0);
            if (!readJoined(0, 0)) {
                return false;
            }
            write(END);
            if (hole < MOST_CODE) {
                code[hole] = written;
            }
            return true;
        }

        /** Parts of the next level joined by signs of this one; level 0 is a whole E. */
        private boolean readJoined(int level, int open) {
            if (level >= OPERAND) {
                return readOperand(open);
            }
            if (!readJoined(level + 1, open)) {
                return false;
            }
            int most = level == COMPARING ? 1 : MOST_BYTES;
            for (int joined = 0; joined < most && isAhead(signsOf(level)); joined++) {
                int sign = bytes[at];
                at++;
                if (!readJoined(level + 1, open)) {
                    return false;
                }
                write(-sign);
            }
            return true;
        }

        private boolean readOperand(int open) {
            if (isDigit()) {
                readNumber();
                return true;
            }
            if (isAhead("wfacnk")) {
                write(NAME - "wfacnk".indexOf((char) bytes[at]));
                at++;
                return true;
            }
            if (open >= MOST_OPEN) {
                return false;
            }
            if (accepts('(')) {
                return readJoined(0, open + 1) && accepts(')');
            }
            if (accepts('!')) {
                boolean good = readOperand(open + 1);
                write(NOT_OF);
                return good;
            }
            if (accepts('-')) {
                boolean good = readOperand(open + 1);
                write(MINUS_OF);
                return good;
            }
            return false;
        }

        private void readNumber() {
            int number = 0;
            for (int digits = 0; digits < MOST_DIGITS && isDigit(); digits++) {
                number = 10 * number + bytes[at] - '0';
                at++;
            }
            write(number);
        }

        private static String signsOf(int level) {
            switch (level) {
                case 0: return "|";
                case 1: return "&";
                case COMPARING: return "<=>";
                case 3: return "+-";
                default: return "*/%";
            }
        }

        private boolean isDigit() {
            return at < fed && bytes[at] >= '0' && bytes[at] <= '9';
        }

        private boolean isAhead(String signs) {
            return at < fed && signs.indexOf((char) bytes[at]) >= 0;
        }

        private boolean accepts(char sign) {
            if (at >= fed || bytes[at] != sign) {
                return false;
            }
            at++;
            return true;
        }

        private void write(int word) {
            if (written < MOST_CODE) {
                code[written] = word;
                written++;
            }
        }
    }

    /** THE LAW: what a FIGURE brings. */
    private static final class Rule {
        private static final int NAMES = 6;
        private static final int MOST_HELD = 64;
        private static final int MOST_BROUGHT = 9999;

        private final int[] code = new int[Tape.MOST_CODE];
        private final int[] named = new int[NAMES];
        private final int[] held = new int[MOST_HELD];
        private int length;
        private int top;

        void take(Tape tape) {
            length = tape.copyCode(code);
        }

        int worthOf(Stock stock, int figure, int year, int n) {
            int worth = stock.traitOf(figure, 0);
            int fades = stock.traitOf(figure, 1);
            int away = Math.abs(year - stock.traitOf(figure, 2));
            if (length == 0) {
                return Math.max(0, worth - fades * away);
            }
            named[0] = worth;
            named[1] = fades;
            named[2] = away;
            named[3] = stock.formOf(figure).cells;
            named[4] = n;
            named[5] = figure;
            return Math.max(0, Math.min(MOST_BROUGHT, workOut()));
        }

        private int workOut() {
            top = 0;
            int at = 0;
            for (int done = 0; done < length && at < length; done++) {
                int word = code[at];
                at++;
                if (word == Tape.END) {
                    return pop();
                }
                if (word == Tape.SKIP) {
                    at = pop() == 0 && at < length ? Math.max(at, code[at]) : at + 1;
                } else {
                    step(word);
                }
            }
            return 0;
        }

        private void step(int word) {
            if (word >= 0) {
                push(word);
            } else if (word <= Tape.NAME) {
                int name = Tape.NAME - word;
                push(name < NAMES ? named[name] : 0);
            } else if (word == Tape.MINUS_OF) {
                push(-pop());
            } else if (word == Tape.NOT_OF) {
                push(truth(pop() == 0));
            } else {
                int right = pop();
                int left = pop();
                push(join(-word, left, right));
            }
        }

        private static int join(int sign, int left, int right) {
            switch (sign) {
                case '|': return truth(left != 0 || right != 0);
                case '&': return truth(left != 0 && right != 0);
                case '<': return truth(left < right);
                case '=': return truth(left == right);
                case '>': return truth(left > right);
                case '+': return left + right;
                case '-': return left - right;
                case '*': return left * right;
                case '/': return right == 0 ? 0 : left / right;
                case '%': return right == 0 ? 0 : left % right;
                default: return 0;
            }
        }

        private static int truth(boolean is) {
            return is ? 1 : 0;
        }

        private void push(int v) {
            if (top < MOST_HELD) {
                held[top] = v;
                top++;
            }
        }

        private int pop() {
            if (top <= 0) {
                return 0;
            }
            top--;
            return held[top];
        }
    }

    /** ROWS OF CUTTINGS: the longest, the richest, those of two by turns, those drawn. */
    private static final class Rows {
        private final Stock stock;
        private final Rule rule;
        private final int[] lengths = new int[MOST_FIGURES];
        private final int[] sums = new int[MOST_FIGURES * MOST_FIGURES];
        private final int[] steps = new int[MOST_FIGURES * MOST_FIGURES];
        private final int[] cuts = new int[MOST_FIGURES];
        private int losing;

        Rows(Stock stock, Rule rule) {
            this.stock = stock;
            this.rule = rule;
        }

        /** How long the longest row that begins with each FIGURE is; 0 for those not allowed. */
        void measure(int allowed) {
            for (int i = 0; i < stock.came(); i++) {
                // those out of it have fewer cells, so they are measured by now
                int f = stock.bySize(i);
                lengths[f] = holds(allowed, f) ? 1 + longestOf(stock.outOf(f)) : 0;
            }
        }

        int longestOf(int set) {
            int most = 0;
            for (int f = 0; f < stock.came(); f++) {
                if (holds(set, f)) {
                    most = Math.max(most, lengths[f]);
                }
            }
            return most;
        }

        int inLongest(int first, int k) {
            int set = first;
            for (int i = 0; i < MOST_FIGURES; i++) {
                int f = firstOfLength(set, longestOf(set));
                if (f == NOT || i == k) {
                    return f;
                }
                set = stock.outOf(f);
            }
            return NOT;
        }

        int longestWithout(int first, int figure) {
            measure(stock.all() & ~(1 << figure));
            return longestOf(first);
        }

        /** What is over or under both a and b stands in some row with both, and nothing else does. */
        int longestWith(int first, int a, int b) {
            int overOrUnderA = stock.above(a) | stock.outOf(a);
            if (!holds(first, a) || !holds(first, b) || !holds(overOrUnderA, b)) {
                return NOT;
            }
            int two = 1 << a | 1 << b;
            measure(overOrUnderA & (stock.above(b) | stock.outOf(b)) | two);
            return longestOf(first);
        }

        /** The most that a row brings that begins with each FIGURE in each place, from a year on. */
        void weigh(int year) {
            for (int place = MOST_FIGURES - 1; place >= 0; place--) {
                for (int f = 0; f < stock.came(); f++) {
                    int next = richestNext(stock.outOf(f), place + 1);
                    int at = place * MOST_FIGURES + f;
                    sums[at] = rule.worthOf(stock, f, year + place, place);
                    steps[at] = 1;
                    if (next != NOT) {
                        sums[at] += sums[at - f + MOST_FIGURES + next];
                        steps[at] += steps[at - f + MOST_FIGURES + next];
                    }
                }
            }
        }

        int mostOf(int first) {
            int f = richestNext(first, 0);
            return f == NOT ? 0 : sums[f];
        }

        int inRichest(int first, int k) {
            int set = first;
            for (int i = 0; i < MOST_FIGURES; i++) {
                int f = richestNext(set, i);
                if (f == NOT || i == k) {
                    return f;
                }
                set = stock.outOf(f);
            }
            return NOT;
        }

        /** For each FIGURE that is left: whether who is to cut loses, and how many cuts still come. */
        void play() {
            losing = 0;
            for (int i = 0; i < stock.came(); i++) {
                int f = stock.bySize(i);
                cuts[f] = cutsPlayed(stock.outOf(f));
                if (firstWinning(stock.outOf(f)) == NOT) {
                    losing |= 1 << f;
                }
            }
        }

        int firstWinning(int set) {
            for (int f = 0; f < stock.came(); f++) {
                if (holds(set & losing, f)) {
                    return f;
                }
            }
            return NOT;
        }

        int cutsPlayed(int set) {
            boolean wins = (set & losing) != 0;
            int most = 0;
            int fewest = MOST_FIGURES;
            for (int f = 0; f < stock.came(); f++) {
                if (holds(set, f)) {
                    most = Math.max(most, 1 + cuts[f]);
                }
                if (holds(set & losing, f)) {
                    fewest = Math.min(fewest, 1 + cuts[f]);
                }
            }
            return wins ? fewest : most;
        }

        /** All cuts (figure -1), or how many of n blocks end with a FIGURE. */
        int draw(int first, int seed, int n, int figure) {
            int z = seed;
            int all = 0;
            int ends = 0;
            for (int block = 0; block < n; block++) {
                int end = -1;
                int set = first;
                for (int cut = 0; cut < MOST_FIGURES && set != 0; cut++) {
                    z = z * 1103515245 + 12345;
                    end = nth(set, (z >>> 8) % Math.max(1, Integer.bitCount(set)));
                    set = stock.outOf(end);
                    all++;
                }
                if (end == figure) {
                    ends++;
                }
            }
            return figure == -1 ? all : ends;
        }

        private int firstOfLength(int set, int length) {
            for (int f = 0; f < stock.came(); f++) {
                if (length > 0 && holds(set, f) && lengths[f] == length) {
                    return f;
                }
            }
            return NOT;
        }

        /** With which FIGURE to go on; NOT: to end there brings as much. */
        private int richestNext(int set, int place) {
            int best = NOT;
            int most = 0;
            int fewest = 0;
            for (int f = 0; f < stock.came() && place < MOST_FIGURES; f++) {
                int at = place * MOST_FIGURES + f;
                if (holds(set, f) && (sums[at] > most || sums[at] == most && steps[at] < fewest)) {
                    best = f;
                    most = sums[at];
                    fewest = steps[at];
                }
            }
            return best;
        }

        private int nth(int set, int n) {
            int ahead = 0;
            for (int f = 0; f < stock.came(); f++) {
                if (holds(set, f)) {
                    if (ahead == n) {
                        return f;
                    }
                    ahead++;
                }
            }
            return 0;
        }
    }

    /** Rows of cuttings as they are TOLD on a SHELF, -1 for what is not known. */
    private static final class Told {
        private static final int MOST_COUNTED = 9999;

        private final Stock stock;
        private int[] fillings = new int[MOST_FIGURES];
        private int[] longer = new int[MOST_FIGURES];
        private int lastRead;

        Told(Stock stock) {
            this.stock = stock;
        }

        /** The first place that cannot be so, or NOT; at one place (-1: none) another FIGURE is read. */
        int firstWrong(Shelves shelves, int shelf, int first, int place, int figure) {
            int next = first;
            lastRead = 0;
            for (int i = 0; i < shelves.sizeOf(shelf); i++) {
                lastRead = next & meant(i == place ? figure : shelves.at(shelf, i));
                if (lastRead == 0) {
                    return i;
                }
                next = stock.outOfAny(lastRead);
            }
            return NOT;
        }

        int lastOnes(Shelves shelves, int shelf, int first) {
            return firstWrong(shelves, shelf, first, -1, -1) == NOT ? lastRead : 0;
        }

        int firstFilling(Shelves shelves, int shelf, int first) {
            int place = firstUnknown(shelves, shelf);
            if (place == NOT) {
                return NOT;
            }
            for (int f = 0; f < stock.came(); f++) {
                if (firstWrong(shelves, shelf, first, place, f) == NOT) {
                    return f;
                }
            }
            return NOT;
        }

        int countFillings(Shelves shelves, int shelf, int first) {
            if (shelves.sizeOf(shelf) == 0) {
                return 1;
            }
            int begun = first & meant(shelves.at(shelf, 0));
            for (int f = 0; f < MOST_FIGURES; f++) {
                fillings[f] = holds(begun, f) ? 1 : 0;
            }
            for (int i = 1; i < shelves.sizeOf(shelf); i++) {
                goOn(meant(shelves.at(shelf, i)));
            }
            int sum = 0;
            for (int f = 0; f < MOST_FIGURES; f++) {
                sum = Math.min(MOST_COUNTED, sum + fillings[f]);
            }
            return sum;
        }

        private void goOn(int allowed) {
            for (int f = 0; f < MOST_FIGURES; f++) {
                longer[f] = 0;
                for (int ahead = 0; ahead < stock.came() && holds(allowed, f); ahead++) {
                    if (holds(stock.outOf(ahead), f)) {
                        longer[f] = Math.min(MOST_COUNTED, longer[f] + fillings[ahead]);
                    }
                }
            }
            int[] done = fillings;
            fillings = longer;
            longer = done;
        }

        /** The FIGURES that an element may stand for. */
        private int meant(long element) {
            if (element == -1) {
                return stock.all();
            }
            return element >= 0 && element < stock.came() ? 1 << (int) element : 0;
        }

        private static int firstUnknown(Shelves shelves, int shelf) {
            for (int i = 0; i < shelves.sizeOf(shelf); i++) {
                if (shelves.at(shelf, i) == -1) {
                    return i;
                }
            }
            return NOT;
        }
    }

    /** The BLOCKS, what was cut of them in deed, and AN IMAGE of that. */
    private static final class Yard {
        static final int CUTS = 0, LOST = 1, BROUGHT = 2, NOW = 3, LEDGER = 4;
        private static final int MOST_BLOCKS = 6;

        private final int[] left = new int[MOST_BLOCKS];
        private final int[] cutOf = new int[MOST_BLOCKS];
        private final int[] ledger = new int[LEDGER];
        private final int[] imageLeft = new int[MOST_BLOCKS];
        private final int[] imageCutOf = new int[MOST_BLOCKS];
        private final int[] imageLedger = new int[LEDGER];
        private int came;
        private int imageBlocks;
        private boolean hasImage;

        int blocks() {
            return came;
        }

        boolean has(int block) {
            return block >= 0 && block < came;
        }

        int add(int shape) {
            if (came >= MOST_BLOCKS) {
                return FULL;
            }
            left[came] = shape;
            came++;
            return came - 1;
        }

        int leftOf(int block) {
            return left[block];
        }

        int cutsOf(int block) {
            return cutOf[block];
        }

        int ledger(int what) {
            return ledger[what];
        }

        void take(int block, int shape, int brought) {
            ledger[CUTS]++;
            ledger[LOST] += Integer.bitCount(left[block]) - Integer.bitCount(shape);
            ledger[BROUGHT] += brought;
            left[block] = shape;
            cutOf[block]++;
        }

        int letPass(int years) {
            if (ledger[NOW] + years > LAST_YEAR) {
                return STATE;
            }
            ledger[NOW] += years;
            return ledger[NOW];
        }

        void store() {
            System.arraycopy(left, 0, imageLeft, 0, came);
            System.arraycopy(cutOf, 0, imageCutOf, 0, came);
            System.arraycopy(ledger, 0, imageLedger, 0, LEDGER);
            imageBlocks = came;
            hasImage = true;
        }

        boolean restore() {
            if (!hasImage) {
                return false;
            }
            System.arraycopy(imageLeft, 0, left, 0, imageBlocks);
            System.arraycopy(imageCutOf, 0, cutOf, 0, imageBlocks);
            System.arraycopy(imageLedger, 0, ledger, 0, LEDGER);
            return true;
        }
    }

    /** CHANGES: those done stand first, behind them those that can be done again. */
    private static final class Changes {
        private static final int MOST_KEPT = 40;
        private static final int FIELDS = 4;

        private final int[] kept = new int[MOST_KEPT * FIELDS];
        private int done;
        private int undone;

        int done() {
            return done;
        }

        void add(int figure, int what, int was, int is) {
            if (done >= MOST_KEPT) {
                System.arraycopy(kept, FIELDS, kept, 0, (MOST_KEPT - 1) * FIELDS);
                done = MOST_KEPT - 1;
            }
            int at = done * FIELDS;
            kept[at] = figure;
            kept[at + 1] = what;
            kept[at + 2] = was;
            kept[at + 3] = is;
            done++;
            undone = 0;
        }

        int takeBack(Stock stock) {
            if (done == 0) {
                return STATE;
            }
            done--;
            undone++;
            int at = done * FIELDS;
            stock.setTrait(kept[at], kept[at + 1], kept[at + 2]);
            return done;
        }

        int doAgain(Stock stock) {
            if (undone == 0) {
                return STATE;
            }
            int at = done * FIELDS;
            stock.setTrait(kept[at], kept[at + 1], kept[at + 3]);
            done++;
            undone--;
            return undone;
        }
    }

    /** STONES of KINDS, their ACTS by the bodies of the KINDS above, and THE TRACE. */
    private static final class Stones {
        static final int KINDS = 8;
        private static final int MOST_KEPT = 50;
        private static final int MOST_TRACED = 24;
        private static final int DEEPEST = 40;
        private static final int ACTS = 4;
        private static final int CUTS = 0, HOLDS = 1, LEAVES = 2, TELLS = 3;
        private static final int[] ABOVE = {-1, 0, 0, 2, 1, 3, 0, 4};
        // by KIND, then by ACT; 0: the KIND has no body of its own
        private static final int[] BODIES = {
            1, 10, 11, 2,
            20, 0, 0, 0,
            0, 30, 0, 0,
            0, 41, 40, 0,
            0, 0, 50, 0,
            0, 0, 0, 60,
            70, 0, 0, 0,
            0, 80, 0, 81
        };

        private final int[] kinds = new int[MOST_KEPT];
        private final int[] traces = new int[MOST_TRACED];
        private int came;
        private int began;

        int kept() {
            return came;
        }

        int ran() {
            return began;
        }

        boolean has(int stone) {
            return stone >= 0 && stone < came;
        }

        int kindOf(int stone) {
            return kinds[stone];
        }

        int add(int kind) {
            if (came >= MOST_KEPT) {
                return FULL;
            }
            kinds[came] = kind;
            came++;
            return came - 1;
        }

        int traced(int i) {
            return i >= 0 && i < Math.min(began, MOST_TRACED) ? traces[i] : BAD;
        }

        static boolean isUnder(int kind, int top) {
            int at = kind;
            for (int up = 0; up < KINDS && at >= 0; up++) {
                if (at == top) {
                    return true;
                }
                at = ABOVE[at];
            }
            return false;
        }

        int start(int stone, int act, int x) {
            began = 0;
            if (!has(stone) || act < 0 || act >= ACTS) {
                return 0;
            }
            return own(stone, act, x, 0);
        }

        private int own(int stone, int act, int x, int depth) {
            return answer(stone, kinds[stone], act, x, depth);
        }

        /** An ACT by the first body from a KIND upward. */
        private int answer(int stone, int from, int act, int x, int depth) {
            int kind = from;
            for (int up = 0; up < KINDS && kind >= 0 && BODIES[kind * ACTS + act] == 0; up++) {
                kind = ABOVE[kind];
            }
            if (kind < 0 || depth >= DEEPEST) {
                return 0;
            }
            int body = BODIES[kind * ACTS + act];
            note(body);
            int deeper = depth + 1;
            int over = ABOVE[kind];
            switch (body) {
                case 1: return x + stone;
                case 2: return own(stone, HOLDS, x, deeper) - own(stone, LEAVES, 1, deeper);
                case 10: return own(stone, CUTS, x, deeper) * 2;
                case 11: return x ^ stone;
                case 20: return answer(stone, over, CUTS, x, deeper) + 3;
                case 30: return -answer(stone, over, HOLDS, x, deeper);
                case 40: return answer(stone, over, LEAVES, x, deeper) * 3;
                case 41: return answer(stone, over, HOLDS, x + 1, deeper);
                case 50: return answer(stone, over, LEAVES, x, deeper) - own(stone, CUTS, 2, deeper);
                case 60: return answer(stone, over, TELLS, x, deeper) ^ 5;
                case 70: return answer(stone, over, CUTS, x, deeper) * 2;
                case 80: return answer(stone, over, HOLDS, x, deeper) + own(stone, LEAVES, 2, deeper);
                case 81: return answer(stone, over, TELLS, x, deeper) - 1;
                default: return 0;
            }
        }

        private void note(int body) {
            if (began < MOST_TRACED) {
                traces[began] = body;
            }
            began++;
        }
    }

    /** SHELVES, each with nothing, a STONE or a ROW, whose elements lie in one stretch a SHELF. */
    private static final class Shelves {
        static final int NONE = -1, BYTES = 0, INTS = 2, SORTS = 5, STONE = 5;
        static final int LONGEST_ROW = 60;
        private static final int COUNT = 6;

        private final int[] sorts = {NONE, NONE, NONE, NONE, NONE, NONE};
        private final int[] sizes = new int[COUNT];
        private final long[] elements = new long[COUNT * LONGEST_ROW];

        boolean has(int shelf) {
            return shelf >= 0 && shelf < COUNT;
        }

        int sortOf(int shelf) {
            return sorts[shelf];
        }

        boolean isRow(int shelf) {
            return sorts[shelf] >= 0 && sorts[shelf] < SORTS;
        }

        /** How long the ROW is; of a STONE, which. */
        int sizeOf(int shelf) {
            return sizes[shelf];
        }

        void set(int shelf, int sort, int size) {
            sorts[shelf] = sort;
            sizes[shelf] = size;
        }

        void empty(int shelf) {
            for (int i = 0; i < LONGEST_ROW; i++) {
                elements[shelf * LONGEST_ROW + i] = 0;
            }
        }

        boolean hasStretch(int shelf, int i, int n) {
            return i >= 0 && n >= 0 && n <= sizes[shelf] && i <= sizes[shelf] - n;
        }

        long at(int shelf, int i) {
            return elements[shelf * LONGEST_ROW + i];
        }

        void write(int shelf, int i, long v) {
            elements[shelf * LONGEST_ROW + i] = narrowed(sorts[shelf], v);
        }

        void copy(int shelf, int i, int other, int j, int n) {
            System.arraycopy(elements, shelf * LONGEST_ROW + i, elements, other * LONGEST_ROW + j, n);
        }

        private static long narrowed(int sort, long v) {
            switch (sort) {
                case BYTES: return (byte) v;
                case 1: return (short) v;
                case INTS: return (int) v;
                case 4: return v != 0 ? 1 : 0;
                default: return v;
            }
        }
    }
}
