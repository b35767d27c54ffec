/** Rows of tiles that are inflated. The project's document says, promise by promise, what each call answers. */
public final class InflatedRows {
    public static final int NONE = -1000000, BAD = -1000001, STATE = -1000002, FULL = -1000003;

    private static final int NULL = 1, PLACE = 2, KIND = 3, SIZE = 4, STORE = 5, OVER = 6;
    private static final int FINDINGS = -1000010, FAULTS = -1000100;
    private static final int MOST_INFLATIONS = 60, MOST_YEARS = 30, MOST_SEED = 999999;

    private final Rows rows = new Rows();
    private final Tape tape = new Tape();
    private final Book book = new Book();
    /** What is foretold is tried on this one, so that nothing of the BOOK itself ever changes. */
    private final Book trial = new Book();
    /** A text is read into this one: a FAULT must leave the BOOK as it is. */
    private final Book draft = new Book();
    private final Memory memory = new Memory();
    private final Growth growth = new Growth();
    private final Tally tally = new Tally();
    private final Folding folding = new Folding();
    private final Losses losses = new Losses();
    private final Kinds kinds = new Kinds();
    private int latestFault = 0;
    private int finding = 0;

    public InflatedRows() {
    }

    // ---- rows

    public int row(int row, int lane, int n) {
        if (!Rows.isRow(row) || lane < 0 || lane > Rows.INTS || n > Rows.MOST_ITEMS) return BAD;
        if (n < 0) return found(SIZE);
        rows.make(row, lane, n);
        return unfound(n);
    }

    public int set(int row, int i, int v) {
        if (!Rows.isRow(row)) return BAD;
        if (rows.isMissing(row)) return found(NULL);
        if (i < 0 || i >= rows.sizeOf(row)) return found(PLACE);
        return unfound(rows.put(row, i, v));
    }

    public int copy(int a, int i, int b, int j, int n) {
        if (!Rows.isRow(a) || !Rows.isRow(b)) return BAD;
        if (rows.isMissing(a) || rows.isMissing(b)) return found(NULL);
        if (rows.laneOf(a) != rows.laneOf(b)) return found(STORE);
        if (!rows.spans(a, i, n) || !rows.spans(b, j, n)) return found(PLACE);
        rows.move(a, i, b, j, n);
        return unfound(n);
    }

    public int drop(int row) {
        if (!Rows.isRow(row)) return BAD;
        if (rows.isMissing(row)) return found(NULL);
        int had = rows.sizeOf(row);
        rows.forget(row);
        return unfound(had);
    }

    // ---- what is told

    public int feed(int letter) {
        if (letter < 0 || letter > 255) return BAD;
        if (tape.size() >= Tape.MOST_BYTES) return FULL;
        tape.add(letter);
        return tape.size();
    }

    public int book() {
        int number = tape.readInto(draft);
        int at = tape.at();
        tape.clear();
        if (number != 0) {
            latestFault = number;
            return FAULTS - at;
        }
        book.takeAll(draft);
        memory.forgetActs();
        return book.sortCount();
    }

    public int fault() {
        return latestFault;
    }

    public int undo() {
        if (memory.actCount() == 0) return STATE;
        memory.takeBack(book);
        return memory.actCount();
    }

    // ---- what is done

    public int word(int sort, int row, int n) {
        if (!book.hasSort(sort) || !Rows.isRow(row) || n < 1 || n > Book.MOST_WORD) return BAD;
        int wrong = lettersFinding(row, n);
        if (wrong != 0) return found(wrong);
        int had = book.wordSize(sort);
        memory.keepAct(book);
        book.clearWord(sort);
        for (int i = 0; i < n; i++) book.addToWord(sort, rows.item(row, i));
        return unfound(had);
    }

    public int length(int sort, int which, int v) {
        if (!book.hasSort(sort) || which < 0 || which > 1 || v < 0 || v > 9) return BAD;
        int was = book.part(sort, which);
        memory.keepAct(book);
        book.setPart(sort, which, v);
        return was;
    }

    public int become(int sort, int kind) {
        if (!book.hasSort(sort) || kind < Kinds.PLAIN || kind > Kinds.SPLIT) return BAD;
        int was = book.kindOf(sort);
        if (was == kind) return STATE;
        memory.keepAct(book);
        book.setKind(sort, kind);
        return was;
    }

    public int root(int which, int v) {
        if (!book.stands()) return STATE;
        if (which < 0 || which > 1 || v < Book.leastLaw(which) || v > Book.mostLaw(which)) return BAD;
        int was = book.law(which);
        memory.keepAct(book);
        book.setLaw(which, v);
        return was;
    }

    public int begin(int row, int n) {
        if (!book.stands()) return STATE;
        if (!Rows.isRow(row) || n < 1 || n > Book.MOST_ROW) return BAD;
        int wrong = lettersFinding(row, n);
        if (wrong != 0) return found(wrong);
        int had = book.rowSize();
        memory.keepAct(book);
        book.clearRow();
        for (int i = 0; i < n; i++) book.addToRow(rows.item(row, i));
        return unfound(had);
    }

    public int inflate() {
        if (!book.stands()) return STATE;
        if (!growth.grow(book, 1) || growth.sizeAt(1) > Book.MOST_ROW) return FULL;
        memory.keepAct(book);
        book.clearRow();
        for (int i = 0; i < growth.sizeAt(1); i++) book.addToRow(growth.letterAt(1, i));
        return book.rowSize();
    }

    public int sort(int sort, int what) {
        if (!book.hasSort(sort)) return BAD;
        if (what == 0 || what == 1) return book.part(sort, what);
        if (what == 2) return book.wordSize(sort);
        if (what == 3) return book.imageSize(sort);
        if (what >= 10 && what < 10 + Book.MOST_WORD) return wordLetterOrNone(sort, what - 10);
        if (what >= 20 && what < 20 + Book.MOST_WORD) return imageLetterOrNone(sort, what - 20);
        return BAD;
    }

    public int letter(int i) {
        if (!book.stands()) return STATE;
        if (i < 0) return BAD;
        return i < book.rowSize() ? book.rowLetter(i) : NONE;
    }

    // ---- what grows

    public int grown(int n, int i) {
        if (!book.stands()) return STATE;
        if (!Growth.isStep(n) || i < -1) return BAD;
        if (!growth.grow(book, n)) return FULL;
        if (i == -1) return growth.sizeAt(n);
        return i < growth.sizeAt(n) ? growth.letterAt(n, i) : NONE;
    }

    public int origin(int n, int i, int j) {
        if (!book.stands()) return STATE;
        if (!Growth.isStep(n)) return BAD;
        if (!growth.grow(book, n)) return FULL;
        if (i < 0 || i >= growth.sizeAt(n) || j < 0 || j > n) return BAD;
        return growth.ancestor(n, i, j);
    }

    public long place(int n, int i, int what) {
        if (!book.stands()) return STATE;
        if (!Growth.isStep(n) || i < 0 || what < 0 || what > 1) return BAD;
        if (!growth.grow(book, n)) return FULL;
        return i < growth.sizeAt(n) ? growth.lengthAhead(book, n, i, what) : NONE;
    }

    public long numbers(int sort, int n) {
        if (!book.hasSort(sort) || n < 0 || n > MOST_INFLATIONS) return BAD;
        return orOver(tally.run(book, n) ? tally.of(sort) : Checked.BEYOND);
    }

    public long share(int sort, int n, int what) {
        if (!book.hasSort(sort) || n < 0 || n > MOST_INFLATIONS || what < 0 || what > 1) return BAD;
        long sum = tally.run(book, n) ? tally.sum() : Checked.BEYOND;
        return orOver(sum < 0 ? sum : Checked.partOfFraction(tally.of(sort), sum, what));
    }

    public long all(int n, int what) {
        if (!book.stands()) return STATE;
        if (n < 0 || n > MOST_INFLATIONS || what < 0 || what > 1) return BAD;
        return orOver(tally.run(book, n) ? tally.wholeLength(book, what) : Checked.BEYOND);
    }

    public int whole(int what) {
        if (!book.stands()) return STATE;
        switch (what) {
            case 0:
            case 1:
                return book.law(what);
            case 2:
                return book.rowSize();
            case 3:
                return Pairs.in(book);
            case 4:
                return Integer.bitCount(Pairs.in(book));
            case 5:
            case 6:
                return scalePart(what - 5);
            default:
                return BAD;
        }
    }

    public int back(int row, int n, int what) {
        if (!book.stands()) return STATE;
        if (!Rows.isRow(row) || n < 1 || n > Rows.MOST_ITEMS || what < -1) return BAD;
        int wrong = lettersFinding(row, n);
        if (wrong != 0) return found(wrong);
        folding.clear();
        for (int i = 0; i < n; i++) folding.add(rows.item(row, i));
        folding.unfold(book);
        if (what == -1) return unfound(folding.ways());
        int first = folding.letterOfFirst(book, what);
        return unfound(first < 0 ? NONE : first);
    }

    // ---- foretold

    public int who(int sort, int x, int which, int n, int row, int m) {
        if (!book.hasSort(sort) || which < 0 || which > 2 || !Growth.isStep(n)) return BAD;
        if (which == 1 && (x < 0 || x >= book.rowSize())) return BAD;
        if (which == 2 && (x < 0 || x >= book.wordSize(sort))) return BAD;
        if (!Rows.isRow(row) || m < 1 || m > Rows.MOST_ITEMS) return BAD;
        if (rows.isMissing(row)) return found(NULL);
        if (m > rows.sizeOf(row)) return found(PLACE);
        return unfound(bitsThatTell(sort, x, which, n, row, m));
    }

    public int quiet() {
        if (!book.stands()) return STATE;
        int pairs = Pairs.in(book);
        int places = 0;
        for (int i = 0; i < book.rowSize(); i++) {
            if (isQuiet(i, pairs)) places |= 1 << i;
        }
        return places;
    }

    public int sets(int v, int what) {
        if (!book.stands()) return STATE;
        if (v < 0 || v > 99 || what < 0 || what > 2) return BAD;
        int many = 0;
        int inAll = (1 << book.rowSize()) - 1;
        int inAny = 0;
        for (int places = 0; places < 1 << book.rowSize(); places++) {
            if (weightOf(places) == v) {
                many++;
                inAll &= places;
                inAny |= places;
            }
        }
        if (what == 0) return many;
        if (what == 1) return many == 0 ? 0 : inAll;
        return inAny;
    }

    public long lost(int sort, int v, int p, int what) {
        if (!book.hasSort(sort) || v < 0 || v > Losses.MOST || p < 0 || p > 10 || what < 0 || what > 1) return BAD;
        losses.spread(book, sort, p);
        return Checked.partOfFraction(losses.casesUpTo(v), losses.cases(), what);
    }

    public int drawn(int n, int seed, int what) {
        if (!book.stands()) return STATE;
        if (n < 0 || n > MOST_YEARS || seed < 1 || seed > MOST_SEED || what < 0 || what > 1) return BAD;
        trial.takeAll(book);
        long x = seed;
        int together = 0;
        int inAll = 0xFFFF;
        for (int year = 0; year < n; year++) {
            x = x * 16807L % 2147483647L;
            changeByDraw(x);
            int pairs = Pairs.in(trial);
            together += Integer.bitCount(pairs);
            inAll &= pairs;
        }
        return what == 0 ? together : inAll;
    }

    public int image(int k) {
        if (!Memory.isImage(k)) return BAD;
        if (!book.stands()) return STATE;
        memory.keepImage(k, book);
        return 1;
    }

    public int restore(int k) {
        if (!Memory.isImage(k)) return BAD;
        if (!memory.hasImage(k)) return STATE;
        memory.bringImage(k, book);
        memory.forgetActs();
        return 1;
    }

    // ---- asked

    public int kind(int one) {
        return book.hasSort(one) ? book.kindOf(one) : BAD;
    }

    public int as(int one, int kind) {
        if (!book.hasSort(one) || kind < Kinds.SORT || kind > Kinds.SPLIT) return BAD;
        return Kinds.isA(book.kindOf(one), kind) ? unfound(one) : found(KIND);
    }

    public int ask(int one, int what) {
        if (!book.hasSort(one) || what < 0 || what > 1) return BAD;
        return kinds.answer(book, one, what);
    }

    public int trace(int i) {
        return i >= 0 && i < kinds.bodyCount() ? kinds.body(i) : NONE;
    }

    public int count(int what) {
        switch (what) {
            case 0:
                return rows.howMany();
            case 1:
                return book.sortCount();
            case 2:
                return book.rowSize();
            case 3:
                return book.lettersOfWords();
            case 4:
                return memory.actCount();
            case 5:
                return tape.size();
            default:
                return BAD;
        }
    }

    public int status() {
        return finding;
    }

    // ---- help for the calls

    private int found(int number) {
        finding = number;
        return FINDINGS - number;
    }

    private int unfound(int answer) {
        finding = 0;
        return answer;
    }

    /** Numbers of tiles are never below 0, so that such an answer can stand for OVER. */
    private long orOver(long answer) {
        if (answer < 0) return found(OVER);
        finding = 0;
        return answer;
    }

    private int lettersFinding(int row, int n) {
        if (rows.isMissing(row)) return NULL;
        if (n > rows.sizeOf(row)) return PLACE;
        for (int i = 0; i < n; i++) {
            if (!book.hasSort(rows.item(row, i))) return PLACE;
        }
        return 0;
    }

    private int wordLetterOrNone(int sort, int i) {
        return i < book.wordSize(sort) ? book.wordLetter(sort, i) : NONE;
    }

    private int imageLetterOrNone(int sort, int i) {
        return i < book.imageSize(sort) ? book.imageLetter(sort, i) : NONE;
    }

    private int scalePart(int which) {
        for (int s = 0; s <= 9; s++) {
            for (int t = 0; t <= 9; t++) {
                if (book.scalesBy(s, t)) return which == 0 ? s : t;
            }
        }
        return NONE;
    }

    /** Bits of the KINDS (which = 0) or letters by which the m ITEMS are so. */
    private int bitsThatTell(int sort, int x, int which, int n, int row, int m) {
        int least = which == 0 ? Kinds.PLAIN : 0;
        int most = which == 0 ? Kinds.SPLIT : book.sortCount() - 1;
        int bits = 0;
        trial.takeAll(book);
        for (int v = least; v <= most; v++) {
            if (which == 0) trial.setKind(sort, v);
            if (which == 1) trial.setRowLetter(x, v);
            if (which == 2) trial.setWordLetter(sort, x, v);
            if (trialTells(n, row, m)) bits |= 1 << v;
        }
        return bits;
    }

    private boolean trialTells(int n, int row, int m) {
        if (!growth.grow(trial, n) || growth.sizeAt(n) < m) return false;
        for (int i = 0; i < m; i++) {
            if (growth.letterAt(n, i) != rows.item(row, i)) return false;
        }
        return true;
    }

    private boolean isQuiet(int place, int pairs) {
        int now = book.rowLetter(place);
        trial.takeAll(book);
        for (int letter = 0; letter < book.sortCount(); letter++) {
            trial.setRowLetter(place, letter);
            if (letter != now && Pairs.in(trial) == pairs) return true;
        }
        return false;
    }

    private int weightOf(int places) {
        int weight = 0;
        for (int i = 0; i < book.rowSize(); i++) {
            if ((places >> i & 1) == 1) weight += book.lengthOf(book.rowLetter(i), 0);
        }
        return weight;
    }

    private void changeByDraw(long x) {
        int letters = trial.rowSize();
        int sorts = trial.sortCount();
        if (letters < 1 || sorts < 1) return;
        trial.setRowLetter((int) (x % letters), (int) (x / 16 % sorts));
    }

    /** Whole numbers from 0 on that a long holds; one that it does not hold is BEYOND. */
    private static final class Checked {
        static final long BEYOND = -1;
        private static final long MOST = 9223372036854775807L;
        private static final int MOST_DIVISIONS = 100;

        private Checked() {
        }

        static long plus(long a, long b) {
            if (a < 0 || b < 0 || a > MOST - b) return BEYOND;
            return a + b;
        }

        static long times(long a, int factor) {
            if (a < 0 || factor < 0) return BEYOND;
            if (factor == 0) return 0;
            return a > MOST / factor ? BEYOND : a * factor;
        }

        /** Above (0) or below (1), in lowest terms. */
        static long partOfFraction(long above, long below, int which) {
            long divisor = commonDivisor(above, below);
            if (divisor == 0) return 0;
            return (which == 0 ? above : below) / divisor;
        }

        private static long commonDivisor(long a, long b) {
            long greater = a;
            long lesser = b;
            for (int i = 0; i < MOST_DIVISIONS && lesser != 0; i++) {
                long rest = greater % lesser;
                greater = lesser;
                lesser = rest;
            }
            return greater;
        }
    }

    /** Which KINDS there are, which of them is one of another, and the BODIES that answer for them. */
    private static final class Kinds {
        static final int SORT = 0, PLAIN = 1, MIRRORED = 2, LONG = 3, FIXED = 4, SPLIT = 5;
        private static final int[] NEAREST = {SORT, SORT, PLAIN, PLAIN, SORT, FIXED};
        private static final int MOST_TRACED = 16, DEEPEST = 12;
        /** By KIND: the BODY that begins, that of the nearest KIND where none is told. */
        private static final int[] SIZE_BODIES = {10, 11, 12, 11, 13, 14};
        private static final int[] MARK_BODIES = {20, 21, 24, 22, 23, 23};

        private final int[] traced = new int[MOST_TRACED];
        private int bodies = 0;

        Kinds() {
        }

        static boolean isA(int kind, int wanted) {
            int now = kind;
            for (int i = 0; i < NEAREST.length && now > SORT && now < NEAREST.length; i++) {
                if (now == wanted) return true;
                now = NEAREST[now];
            }
            return wanted == SORT;
        }

        /** SORT for a letter that tells no KIND. */
        static int toldBy(int letter) {
            switch (letter) {
                case 'p':
                    return PLAIN;
                case 'm':
                    return MIRRORED;
                case 'l':
                    return LONG;
                case 'f':
                    return FIXED;
                case 's':
                    return SPLIT;
                default:
                    return SORT;
            }
        }

        int bodyCount() {
            return bodies;
        }

        int body(int i) {
            return traced[i];
        }

        int answer(Book book, int sort, int what) {
            bodies = 0;
            return give(book, sort, what == 0 ? sizeBody(book, sort) : markBody(book, sort), 0);
        }

        private static int sizeBody(Book book, int sort) {
            return SIZE_BODIES[book.kindOf(sort)];
        }

        private static int markBody(Book book, int sort) {
            return MARK_BODIES[book.kindOf(sort)];
        }

        private void leave(int body) {
            if (bodies >= MOST_TRACED) return;
            traced[bodies] = body;
            bodies++;
        }

        /** The order of the summands is that of THE TRACE. */
        private int give(Book book, int sort, int body, int depth) {
            if (depth > DEEPEST) return 0;
            leave(body);
            int deeper = depth + 1;
            switch (body) {
                case 10:
                    return book.part(sort, 0);
                case 11:
                    return give(book, sort, 10, deeper) + give(book, sort, markBody(book, sort), deeper);
                case 12:
                    return -give(book, sort, 11, deeper);
                case 13:
                    return give(book, sort, 10, deeper) - 100;
                case 14:
                    return 2 * give(book, sort, 13, deeper);
                case 20:
                    return sort;
                case 21:
                    return give(book, sort, 20, deeper) + book.wordSize(sort);
                case 22:
                    return give(book, sort, 21, deeper) - 1000;
                case 23:
                    return give(book, sort, 20, deeper) - give(book, sort, sizeBody(book, sort), deeper);
                case 24:
                    return 2 * give(book, sort, 21, deeper);
                default:
                    return 0;
            }
        }
    }

    /** ROWS 0 .. 7; all their ITEMS lie in one array that is made once. */
    private static final class Rows {
        static final int MOST_ITEMS = 40;
        static final int BYTES = 0, SHORTS = 1, INTS = 2;
        private static final int ROWS = 8, MISSING = -1;

        private final int[] items = new int[ROWS * MOST_ITEMS];
        private final int[] sizes = new int[ROWS];
        private final int[] lanes = new int[ROWS];

        Rows() {
            for (int row = 0; row < ROWS; row++) lanes[row] = MISSING;
        }

        static boolean isRow(int row) {
            return row >= 0 && row < ROWS;
        }

        boolean isMissing(int row) {
            return lanes[row] == MISSING;
        }

        int sizeOf(int row) {
            return sizes[row];
        }

        int laneOf(int row) {
            return lanes[row];
        }

        int item(int row, int i) {
            return items[row * MOST_ITEMS + i];
        }

        void make(int row, int lane, int n) {
            lanes[row] = lane;
            sizes[row] = n;
            for (int i = 0; i < n; i++) items[row * MOST_ITEMS + i] = 0;
        }

        void forget(int row) {
            lanes[row] = MISSING;
            sizes[row] = 0;
        }

        int put(int row, int i, int v) {
            int kept = v;
            if (lanes[row] == BYTES) kept = (byte) v;
            if (lanes[row] == SHORTS) kept = (short) v;
            items[row * MOST_ITEMS + i] = kept;
            return kept;
        }

        /** Asked without a sum of from and n, which could wrap around. */
        boolean spans(int row, int from, int n) {
            return from >= 0 && n >= 0 && from <= sizes[row] && n <= sizes[row] - from;
        }

        void move(int a, int i, int b, int j, int n) {
            System.arraycopy(items, a * MOST_ITEMS + i, items, b * MOST_ITEMS + j, n);
        }

        int howMany() {
            int there = 0;
            for (int row = 0; row < ROWS; row++) {
                if (lanes[row] != MISSING) there++;
            }
            return there;
        }
    }

    /** A law, SORTS and THE ROW, in one array, so that all of it is kept or brought back by one copy. */
    private static final class Book {
        static final int MOST_SORTS = 4, MOST_WORD = 4, MOST_ROW = 8;
        private static final int LAW = 0, SORTS = 2, ROW_SIZE = 3, KINDS = 4, PARTS = 8;
        private static final int WORD_SIZES = 16, WORDS = 20, ROW = 36;
        static final int CELLS = 44;

        private final int[] cells = new int[CELLS];

        Book() {
        }

        void clear() {
            for (int i = 0; i < CELLS; i++) cells[i] = 0;
        }

        void takeAll(Book other) {
            takeAll(other.cells, 0);
        }

        void takeAll(int[] from, int at) {
            System.arraycopy(from, at, cells, 0, CELLS);
        }

        void putAll(int[] to, int at) {
            System.arraycopy(cells, 0, to, at, CELLS);
        }

        boolean stands() {
            return cells[SORTS] > 0;
        }

        static int leastLaw(int which) {
            return which == 0 ? 0 : 1;
        }

        static int mostLaw(int which) {
            return which == 0 ? 3 : 9;
        }

        /** M (0), K (1). */
        int law(int which) {
            return cells[LAW + which];
        }

        void setLaw(int which, int v) {
            cells[LAW + which] = v;
        }

        int sortCount() {
            return cells[SORTS];
        }

        boolean hasSort(int sort) {
            return sort >= 0 && sort < cells[SORTS];
        }

        /** Answers the new SORT's number; there must be room. */
        int addSort(int kind) {
            int sort = cells[SORTS];
            cells[SORTS] = sort + 1;
            cells[KINDS + sort] = kind;
            return sort;
        }

        int kindOf(int sort) {
            return cells[KINDS + sort];
        }

        void setKind(int sort, int kind) {
            cells[KINDS + sort] = kind;
        }

        /** P (0), Q (1), as they were told. */
        int part(int sort, int which) {
            return cells[PARTS + 2 * sort + which];
        }

        void setPart(int sort, int which, int v) {
            cells[PARTS + 2 * sort + which] = v;
        }

        int lengthOf(int sort, int which) {
            return kindOf(sort) == Kinds.LONG ? 2 * part(sort, which) : part(sort, which);
        }

        int wordSize(int sort) {
            return cells[WORD_SIZES + sort];
        }

        int wordLetter(int sort, int i) {
            return cells[WORDS + MOST_WORD * sort + i];
        }

        void setWordLetter(int sort, int i, int letter) {
            cells[WORDS + MOST_WORD * sort + i] = letter;
        }

        void clearWord(int sort) {
            cells[WORD_SIZES + sort] = 0;
        }

        void addToWord(int sort, int letter) {
            int size = cells[WORD_SIZES + sort];
            if (size >= MOST_WORD) return;
            setWordLetter(sort, size, letter);
            cells[WORD_SIZES + sort] = size + 1;
        }

        int imageSize(int sort) {
            if (kindOf(sort) == Kinds.FIXED) return 1;
            if (kindOf(sort) == Kinds.SPLIT) return 2;
            return wordSize(sort);
        }

        int imageLetter(int sort, int i) {
            int kind = kindOf(sort);
            if (kind == Kinds.FIXED || kind == Kinds.SPLIT) return sort;
            return wordLetter(sort, kind == Kinds.MIRRORED ? wordSize(sort) - 1 - i : i);
        }

        int timesInImage(int sort, int letter) {
            int times = 0;
            for (int i = 0; i < imageSize(sort); i++) {
                if (imageLetter(sort, i) == letter) times++;
            }
            return times;
        }

        int imageLength(int sort, int which) {
            int sum = 0;
            for (int i = 0; i < imageSize(sort); i++) sum += lengthOf(imageLetter(sort, i), which);
            return sum;
        }

        /** (s and t R) times (p and q R), with R R being M R and K, number by number. */
        boolean scalesBy(int s, int t) {
            for (int sort = 0; sort < cells[SORTS]; sort++) {
                int p = lengthOf(sort, 0);
                int q = lengthOf(sort, 1);
                if (imageLength(sort, 0) != s * p + t * q * law(1)) return false;
                if (imageLength(sort, 1) != s * q + t * p + t * q * law(0)) return false;
            }
            return true;
        }

        int lettersOfWords() {
            int sum = 0;
            for (int sort = 0; sort < cells[SORTS]; sort++) sum += wordSize(sort);
            return sum;
        }

        int rowSize() {
            return cells[ROW_SIZE];
        }

        int rowLetter(int i) {
            return cells[ROW + i];
        }

        void setRowLetter(int i, int letter) {
            cells[ROW + i] = letter;
        }

        void clearRow() {
            cells[ROW_SIZE] = 0;
        }

        void addToRow(int letter) {
            int size = cells[ROW_SIZE];
            if (size >= MOST_ROW) return;
            setRowLetter(size, letter);
            cells[ROW_SIZE] = size + 1;
        }

        boolean hasAllSortsItNames() {
            for (int sort = 0; sort < cells[SORTS]; sort++) {
                for (int i = 0; i < wordSize(sort); i++) {
                    if (!hasSort(wordLetter(sort, i))) return false;
                }
            }
            for (int i = 0; i < cells[ROW_SIZE]; i++) {
                if (!hasSort(rowLetter(i))) return false;
            }
            return true;
        }
    }

    /** THE TAPE, and how a text on it is read: each take.. goes past one TOKEN, or leaves a FAULT at it. */
    private static final class Tape {
        static final int MOST_BYTES = 120;
        private static final int END = -1;
        private static final int MISPLACED = 1, NUMBER_NOT_AS_TOLD = 2, SORT_TOO_MANY = 3, SORT_NOT_THERE = 4;

        private final int[] bytes = new int[MOST_BYTES];
        private int size = 0;
        private int at = 0;
        private int number = 0;
        private int value = 0;

        Tape() {
        }

        int size() {
            return size;
        }

        void add(int letter) {
            if (size >= MOST_BYTES) return;
            bytes[size] = letter;
            size++;
        }

        void clear() {
            size = 0;
            at = 0;
        }

        /** Where the TOKEN begins that had the FAULT. */
        int at() {
            return at;
        }

        /** The number of the FAULT, 0 for none. */
        int readInto(Book draft) {
            at = 0;
            number = 0;
            draft.clear();
            boolean read = takeLaw(draft) && takeSorts(draft) && takeTheRow(draft);
            if (read && at < size) leave(MISPLACED);
            else if (read && !draft.hasAllSortsItNames()) leave(SORT_NOT_THERE);
            return number;
        }

        private boolean takeLaw(Book draft) {
            if (!takeByte('r') || !takeNumber(Book.leastLaw(0), Book.mostLaw(0))) return false;
            draft.setLaw(0, value);
            if (!takeByte(',') || !takeNumber(Book.leastLaw(1), Book.mostLaw(1))) return false;
            draft.setLaw(1, value);
            return takeByte(';');
        }

        private boolean takeSorts(Book draft) {
            for (int i = 0; i <= Book.MOST_SORTS; i++) {
                if (i > 0 && next() == 'x') return true;
                if (!takeSort(draft)) return false;
            }
            return leave(MISPLACED);
        }

        private boolean takeSort(Book draft) {
            int kind = Kinds.toldBy(next());
            if (kind == Kinds.SORT) return leave(MISPLACED);
            if (draft.sortCount() >= Book.MOST_SORTS) return leave(SORT_TOO_MANY);
            at++;
            int sort = draft.addSort(kind);
            for (int which = 0; which <= 1; which++) {
                if (!takeNumber(0, 9)) return false;
                draft.setPart(sort, which, value);
                if (!takeByte(',')) return false;
            }
            for (int i = 0; i < Book.MOST_WORD && isTile(next()); i++) draft.addToWord(sort, nextTile());
            return draft.wordSize(sort) > 0 ? takeByte(';') : leave(MISPLACED);
        }

        private boolean takeTheRow(Book draft) {
            if (!takeByte('x')) return false;
            for (int i = 0; i < Book.MOST_ROW && isTile(next()); i++) draft.addToRow(nextTile());
            return draft.rowSize() > 0 ? takeByte(';') : leave(MISPLACED);
        }

        private int next() {
            return at < size ? bytes[at] : END;
        }

        private static boolean isTile(int letter) {
            return letter >= 'a' && letter <= 'd';
        }

        private int nextTile() {
            int tile = next() - 'a';
            at++;
            return tile;
        }

        private boolean takeByte(int wanted) {
            if (next() != wanted) return leave(MISPLACED);
            at++;
            return true;
        }

        /** A longer run of figures is no TOKEN at all, whatever it would tell. */
        private boolean takeNumber(int least, int most) {
            int figures = 0;
            int told = 0;
            for (int i = at; i < size && bytes[i] >= '0' && bytes[i] <= '9'; i++) {
                if (figures < 2) told = 10 * told + bytes[i] - '0';
                figures++;
            }
            if (figures < 1 || figures > 2) return leave(MISPLACED);
            if (told < least || told > most) return leave(NUMBER_NOT_AS_TOLD);
            value = told;
            at += figures;
            return true;
        }

        private boolean leave(int fault) {
            number = fault;
            return false;
        }
    }

    /** ACTS are kept as the whole BOOK ahead of each, so that undoing one needs no rule of its own. */
    private static final class Memory {
        private static final int MOST_ACTS = 24, IMAGES = 2;

        private final int[] acts = new int[MOST_ACTS * Book.CELLS];
        private final int[] images = new int[IMAGES * Book.CELLS];
        private int oldest = 0;
        private int actCount = 0;
        private int imagesKept = 0;

        Memory() {
        }

        int actCount() {
            return actCount;
        }

        void forgetActs() {
            oldest = 0;
            actCount = 0;
        }

        void keepAct(Book book) {
            if (actCount == MOST_ACTS) {
                oldest = (oldest + 1) % MOST_ACTS;
                actCount--;
            }
            book.putAll(acts, (oldest + actCount) % MOST_ACTS * Book.CELLS);
            actCount++;
        }

        void takeBack(Book book) {
            if (actCount == 0) return;
            actCount--;
            book.takeAll(acts, (oldest + actCount) % MOST_ACTS * Book.CELLS);
        }

        static boolean isImage(int k) {
            return k >= 0 && k < IMAGES;
        }

        boolean hasImage(int k) {
            return (imagesKept >> k & 1) == 1;
        }

        void keepImage(int k, Book book) {
            book.putAll(images, k * Book.CELLS);
            imagesKept |= 1 << k;
        }

        void bringImage(int k, Book book) {
            book.takeAll(images, k * Book.CELLS);
        }
    }

    /** THE ROW, GROWN step by step, each letter with the number of the one that it came of. */
    private static final class Growth {
        private static final int MOST_STEPS = 6, MOST_LETTERS = 300;

        private final int[][] letters = new int[MOST_STEPS + 1][MOST_LETTERS];
        private final int[][] parents = new int[MOST_STEPS + 1][MOST_LETTERS];
        private final int[] sizes = new int[MOST_STEPS + 1];

        Growth() {
        }

        static boolean isStep(int n) {
            return n >= 0 && n <= MOST_STEPS;
        }

        /** False: more letters than there may be. */
        boolean grow(Book book, int n) {
            sizes[0] = book.rowSize();
            for (int i = 0; i < sizes[0]; i++) letters[0][i] = book.rowLetter(i);
            for (int step = 1; step <= n; step++) {
                if (!growOnce(book, step)) return false;
            }
            return true;
        }

        private boolean growOnce(Book book, int step) {
            int size = 0;
            for (int i = 0; i < sizes[step - 1]; i++) {
                int sort = letters[step - 1][i];
                int more = book.imageSize(sort);
                if (more > MOST_LETTERS - size) return false;
                for (int j = 0; j < more; j++) {
                    letters[step][size + j] = book.imageLetter(sort, j);
                    parents[step][size + j] = i;
                }
                size += more;
            }
            sizes[step] = size;
            return true;
        }

        int sizeAt(int step) {
            return sizes[step];
        }

        int letterAt(int step, int i) {
            return letters[step][i];
        }

        int ancestor(int step, int i, int stepsBack) {
            int now = i;
            for (int back = 0; back < stepsBack; back++) now = parents[step - back][now];
            return now;
        }

        int lengthAhead(Book book, int step, int i, int which) {
            int sum = 0;
            for (int ahead = 0; ahead < i; ahead++) sum += book.lengthOf(letters[step][ahead], which);
            return sum;
        }
    }

    /** PAIRS have no end to wait for: what lies side by side is closed under inflation instead. */
    private static final class Pairs {
        private Pairs() {
        }

        static int in(Book book) {
            int pairs = withinImages(book, lettersEver(book));
            for (int i = 0; i + 1 < book.rowSize(); i++) pairs |= bit(book.rowLetter(i), book.rowLetter(i + 1));
            for (int round = 0; round < 16; round++) {
                int more = pairs | whereImagesMeet(book, pairs);
                if (more == pairs) return pairs;
                pairs = more;
            }
            return pairs;
        }

        private static int bit(int x, int y) {
            return 1 << 4 * x + y;
        }

        private static int lettersEver(Book book) {
            int letters = 0;
            for (int i = 0; i < book.rowSize(); i++) letters |= 1 << book.rowLetter(i);
            for (int round = 0; round < Book.MOST_SORTS; round++) {
                for (int sort = 0; sort < book.sortCount(); sort++) {
                    if ((letters >> sort & 1) == 1) letters |= lettersOfImage(book, sort);
                }
            }
            return letters;
        }

        private static int lettersOfImage(Book book, int sort) {
            int letters = 0;
            for (int i = 0; i < book.imageSize(sort); i++) letters |= 1 << book.imageLetter(sort, i);
            return letters;
        }

        private static int withinImages(Book book, int letters) {
            int pairs = 0;
            for (int sort = 0; sort < book.sortCount(); sort++) {
                if ((letters >> sort & 1) == 1) pairs |= withinImage(book, sort);
            }
            return pairs;
        }

        private static int withinImage(Book book, int sort) {
            int pairs = 0;
            for (int i = 0; i + 1 < book.imageSize(sort); i++) {
                pairs |= bit(book.imageLetter(sort, i), book.imageLetter(sort, i + 1));
            }
            return pairs;
        }

        private static int whereImagesMeet(Book book, int pairs) {
            int meeting = 0;
            for (int x = 0; x < book.sortCount(); x++) {
                int last = book.imageLetter(x, book.imageSize(x) - 1);
                for (int y = 0; y < book.sortCount(); y++) {
                    if ((pairs & bit(x, y)) != 0) meeting |= bit(last, book.imageLetter(y, 0));
                }
            }
            return meeting;
        }
    }

    /** NUMBERS of all SORTS, inflation by inflation. */
    private static final class Tally {
        private final long[] now = new long[Book.MOST_SORTS];
        private final long[] next = new long[Book.MOST_SORTS];
        private final int[] timesInImage = new int[Book.MOST_SORTS * Book.MOST_SORTS];
        private int sorts = 0;

        Tally() {
        }

        /** False: some number was beyond, now or on the way. */
        boolean run(Book book, int n) {
            takeImages(book);
            for (int sort = 0; sort < sorts; sort++) now[sort] = 0;
            for (int i = 0; i < book.rowSize(); i++) now[book.rowLetter(i)]++;
            for (int step = 0; step < n; step++) {
                if (!runOnce()) return false;
            }
            return true;
        }

        private void takeImages(Book book) {
            sorts = book.sortCount();
            for (int from = 0; from < sorts; from++) {
                for (int to = 0; to < sorts; to++) {
                    timesInImage[from * Book.MOST_SORTS + to] = book.timesInImage(from, to);
                }
            }
        }

        private boolean runOnce() {
            for (int to = 0; to < sorts; to++) {
                next[to] = 0;
                for (int from = 0; from < sorts; from++) {
                    long more = Checked.times(now[from], timesInImage[from * Book.MOST_SORTS + to]);
                    next[to] = Checked.plus(next[to], more);
                }
                if (next[to] < 0) return false;
            }
            System.arraycopy(next, 0, now, 0, sorts);
            return true;
        }

        long of(int sort) {
            return now[sort];
        }

        long sum() {
            long sum = 0;
            for (int sort = 0; sort < sorts; sort++) sum = Checked.plus(sum, now[sort]);
            return sum;
        }

        long wholeLength(Book book, int which) {
            long sum = 0;
            for (int sort = 0; sort < sorts; sort++) {
                sum = Checked.plus(sum, Checked.times(now[sort], book.lengthOf(sort, which)));
            }
            return sum;
        }
    }

    /** BACK, told from the end on: in how many ways what lies behind each place is an IMAGE. */
    private static final class Folding {
        private static final int MOST_WAYS = 1000000;

        private final int[] letters = new int[Rows.MOST_ITEMS];
        private final int[] waysFrom = new int[Rows.MOST_ITEMS + 1];
        private int size = 0;

        Folding() {
        }

        void clear() {
            size = 0;
        }

        void add(int letter) {
            if (size >= Rows.MOST_ITEMS) return;
            letters[size] = letter;
            size++;
        }

        void unfold(Book book) {
            waysFrom[size] = 1;
            for (int at = size - 1; at >= 0; at--) {
                int ways = 0;
                for (int sort = 0; sort < book.sortCount(); sort++) {
                    if (liesAt(book, sort, at)) ways += waysFrom[at + book.imageSize(sort)];
                }
                // Cut at each place: the sum of four that are cut stays within an int.
                waysFrom[at] = Math.min(ways, MOST_WAYS);
            }
        }

        int ways() {
            return waysFrom[0];
        }

        /** Below 0: there is none. */
        int letterOfFirst(Book book, int which) {
            int at = 0;
            for (int i = 0; i < size && at < size; i++) {
                int sort = leastAt(book, at);
                if (sort < 0 || i == which) return sort;
                at += book.imageSize(sort);
            }
            return -1;
        }

        private int leastAt(Book book, int at) {
            for (int sort = 0; sort < book.sortCount(); sort++) {
                if (liesAt(book, sort, at) && waysFrom[at + book.imageSize(sort)] > 0) return sort;
            }
            return -1;
        }

        private boolean liesAt(Book book, int sort, int at) {
            int more = book.imageSize(sort);
            if (more > size - at) return false;
            for (int i = 0; i < more; i++) {
                if (letters[at + i] != book.imageLetter(sort, i)) return false;
            }
            return true;
        }
    }

    /** In how many of ten to the power of THE ROW's letters cases so many of a SORT are there. */
    private static final class Losses {
        static final int MOST = 40;

        private final long[] casesOf = new long[MOST + 1];
        private long cases = 1;

        Losses() {
        }

        void spread(Book book, int sort, int lostOfTen) {
            for (int many = 0; many <= MOST; many++) casesOf[many] = 0;
            casesOf[0] = 1;
            cases = 1;
            for (int i = 0; i < book.rowSize(); i++) {
                addLetter(book.timesInImage(book.rowLetter(i), sort), lostOfTen);
                cases *= 10;
            }
        }

        /** From the most down, so that each case is read before it is changed. */
        private void addLetter(int brings, int lostOfTen) {
            for (int many = MOST; many >= 0; many--) {
                long kept = many >= brings ? casesOf[many - brings] : 0;
                casesOf[many] = lostOfTen * casesOf[many] + (10 - lostOfTen) * kept;
            }
        }

        long casesUpTo(int v) {
            long sum = 0;
            for (int many = 0; many <= v; many++) sum += casesOf[many];
            return sum;
        }

        long cases() {
            return cases;
        }
    }
}
