/** The edges of promises 33 to 38, and of KINDS, ASKS and FINDINGS. */
public final class EdgesOfAskedTest extends Edges {
    private static final String FOUR = "r1,1;p1,9,ab;m2,9,abc;l3,9,abcd;f4,9,ab;xa;";
    private static final String LETTERS = "pmlfs";

    private EdgesOfAskedTest() {
        super(33, 38);
    }

    public static void main(String[] args) {
        EdgesOfAskedTest edges = new EdgesOfAskedTest();
        edges.promise33();
        edges.promise34();
        edges.promise34Refusals();
        edges.promise35Sizes();
        edges.promise35Marks();
        edges.promise35Edges();
        edges.promise35Refusals();
        edges.promise36();
        edges.promise37();
        edges.promise37Most();
        edges.promise38None();
        edges.promise38Rows();
        edges.promise38Letters();
        edges.promise38Over();
        edges.promise38Stays();
        edges.end();
    }

    /** The BOOK of one SORT 0 and a SORT 1 of a KIND, with P and a WORD of so many letters. */
    private static InflatedRows of(int kind, int p, int letters) {
        return Due.with("r1,1;p0,0,a;" + LETTERS.charAt(kind - 1) + p + ",9," + "a".repeat(letters) + ";xa;");
    }

    private void promise33() {
        test(33, "KINDS 1 to 5, as told");
        for (int kind = 1; kind <= 5; kind++) is("KIND " + kind, of(kind, 1, 1).kind(1), kind);
        test(33, "the first SORT and the last");
        is("kind(0)", Due.with(FOUR).kind(0), 1);
        is("kind(3)", Due.with(FOUR).kind(3), 4);
        test(33, "BAD: there is no such SORT");
        InflatedRows x = Due.with(FOUR);
        for (int one : new int[] {-1, 4, LEAST, MOST}) is("kind(" + one + ")", x.kind(one), BAD);
        is("kind(2) of two", of(1, 1, 1).kind(2), BAD);
    }

    private void promise34() {
        String[] isA = {"10", "210", "310", "40", "540"};
        for (int kind = 1; kind <= 5; kind++) {
            InflatedRows x = of(kind, 1, 1);
            test(34, "KINDS that one of KIND " + kind + " is: the SORT's number");
            for (int wanted = 0; wanted <= 5; wanted++) {
                if (isA[kind - 1].indexOf('0' + wanted) >= 0) is("as(1, " + wanted + ")", x.as(1, wanted), 1);
            }
            is("status()", x.status(), 0);
            test(34, "KIND: one of KIND " + kind + " is no such one");
            for (int wanted = 0; wanted <= 5; wanted++) {
                if (isA[kind - 1].indexOf('0' + wanted) < 0) is("as(1, " + wanted + ")", x.as(1, wanted), KIND);
            }
            is("status()", x.status(), 3);
        }
        test(34, "by what it has become");
        InflatedRows x = of(2, 1, 1);
        x.become(1, 5);
        is("as(1, 4)", x.as(1, 4), 1);
        is("as(1, 1)", x.as(1, 1), KIND);
    }

    private void promise34Refusals() {
        InflatedRows x = Due.with(FOUR);
        test(34, "BAD: there is no such SORT");
        for (int one : new int[] {-1, 4, LEAST, MOST}) is("as(" + one + ", 0)", x.as(one, 0), BAD);
        is("ahead of KIND", x.as(4, 5), BAD);
        test(34, "BAD: KINDS are 0 to 5");
        for (int kind : new int[] {-1, 6, LEAST, MOST}) is("as(0, " + kind + ")", x.as(0, kind), BAD);
        is("KIND 0", x.as(3, 0), 3);
        is("KIND 5", x.as(3, 5), KIND);
    }

    private void asked(InflatedRows x, int what, int answer, String trace) {
        is("ask(1, " + what + ")", x.ask(1, what), answer);
        same("THE TRACE", traceOf(x), trace);
    }

    private void promise35Sizes() {
        test(35, "SIZE of a plain one: 11: what 10 gives, and MARK");
        asked(of(1, 7, 3), 0, 7 + 1 + 3, "11 10 21 20");
        test(35, "SIZE of a mirrored one: 12: 0 less what 11 gives; MARK within is asked anew: 24");
        asked(of(2, 7, 3), 0, -(7 + 2 * (1 + 3)), "12 11 10 24 21 20");
        test(35, "SIZE of a long one: none is told, so that of a plain one: 11; P as told");
        asked(of(3, 7, 3), 0, 7 + 1 + 3 - 1000, "11 10 22 21 20");
        test(35, "SIZE of a fixed one: 13: what 10 gives, less 100");
        asked(of(4, 7, 3), 0, -93, "13 10");
        test(35, "SIZE of a split one: 14: twice what 13 gives, asked once");
        asked(of(5, 7, 3), 0, -186, "14 13 10");
    }

    private void promise35Marks() {
        test(35, "MARK of a plain one: 21: what 20 gives, and the letters of its WORD");
        asked(of(1, 7, 3), 1, 4, "21 20");
        test(35, "MARK of a mirrored one: 24: twice what 21 gives, asked once");
        asked(of(2, 7, 3), 1, 8, "24 21 20");
        test(35, "MARK of a long one: 22: what 21 gives, less 1000");
        asked(of(3, 7, 3), 1, -996, "22 21 20");
        test(35, "MARK of a fixed one: 23: what 20 gives, less SIZE");
        asked(of(4, 7, 3), 1, 1 + 93, "23 20 13 10");
        test(35, "MARK of a split one: none is told, so that of a fixed one: 23; SIZE within is asked anew: 14");
        asked(of(5, 7, 3), 1, 1 + 186, "23 20 14 13 10");
    }

    private void promise35Edges() {
        test(35, "P 0 and 9, WORDS of 1 letter and of 4");
        asked(of(1, 0, 1), 0, 2, "11 10 21 20");
        asked(of(1, 9, 4), 0, 14, "11 10 21 20");
        asked(of(4, 0, 1), 0, -100, "13 10");
        asked(of(5, 9, 4), 0, -182, "14 13 10");
        test(35, "the number: 0 of the first SORT, 3 of the last");
        InflatedRows x = Due.with(FOUR);
        is("ask(0, 1)", x.ask(0, 1), 2);
        is("ask(3, 1)", x.ask(3, 1), 3 - (4 - 100));
        test(35, "letters of its WORD, not of its IMAGE; by what has changed");
        x.become(3, 3);
        is("ask(3, 1)", x.ask(3, 1), 3 + 2 - 1000);
        x.length(3, 0, 0);
        is("ask(3, 0)", x.ask(3, 0), 3 + 2 - 1000);
        test(35, "it changes nothing of the BOOK, and is no ACT");
        is("count(4)", x.count(4), 2);
    }

    private void promise35Refusals() {
        InflatedRows x = Due.with(FOUR);
        x.ask(1, 0);
        test(35, "BAD: there is no such SORT");
        for (int one : new int[] {-1, 4, LEAST, MOST}) is("ask(" + one + ", 0)", x.ask(one, 0), BAD);
        test(35, "BAD: ASKS are 0 and 1");
        for (int what : new int[] {-1, 2, LEAST, MOST}) is("ask(0, " + what + ")", x.ask(0, what), BAD);
        test(35, "where it is refused THE TRACE stays");
        same("THE TRACE", traceOf(x), "12 11 10 24 21 20");
        test(35, "THE TRACE is empty ahead of it: nothing of a longer one is left");
        x.ask(0, 1);
        same("THE TRACE", traceOf(x), "21 20");
        is("trace(2)", x.trace(2), NONE);
    }

    private void promise36() {
        InflatedRows x = Due.with(FOUR);
        test(36, "NONE: before an ask");
        is("trace(0)", x.trace(0), NONE);
        x.ask(1, 0);
        test(36, "number i, the first and the last");
        is("trace(0)", x.trace(0), 12);
        is("trace(5)", x.trace(5), 20);
        test(36, "NONE: not so many");
        for (int i : new int[] {6, 15, 16, 17, MOST}) is("trace(" + i + ")", x.trace(i), NONE);
        test(36, "NONE: below 0");
        is("trace(-1)", x.trace(-1), NONE);
        is("trace(the least)", x.trace(LEAST), NONE);
        test(36, "other calls leave it: ACTS, a text, an IMAGE");
        x.length(0, 0, 1);
        x.undo();
        x.image(0);
        Due.book(x, "r1,1;f1,1,a;xa;");
        x.restore(0);
        same("THE TRACE", traceOf(x), "12 11 10 24 21 20");
    }

    private void promise37() {
        InflatedRows x = new InflatedRows();
        test(37, "all are 0 at first");
        for (int what = 0; what <= 5; what++) is("count(" + what + ")", x.count(what), 0);
        test(37, "BAD: what is 0 to 5");
        for (int what : new int[] {-1, 6, LEAST, MOST}) is("count(" + what + ")", x.count(what), BAD);
        test(37, "0 ROWS that are not missing, also of no ITEMS");
        x.row(7, 0, 0);
        is("one", x.count(0), 1);
        for (int row = 0; row < 8; row++) x.row(row, 1, 1);
        is("all", x.count(0), 8);
        x.drop(0);
        is("one less", x.count(0), 7);
        test(37, "1 SORTS, 2 letters of THE ROW, 3 letters of all WORDS, of each KIND");
        Due.book(x, FOUR);
        is("SORTS", x.count(1), 4);
        is("letters of THE ROW", x.count(2), 1);
        is("letters of all WORDS", x.count(3), 2 + 3 + 4 + 2);
        test(37, "4 ACTS that can be undone, not those that were");
        x.length(0, 0, 1);
        x.length(0, 0, 2);
        is("two", x.count(4), 2);
        x.undo();
        is("one", x.count(4), 1);
        test(37, "5 bytes on the tape");
        x.feed(0);
        is("one", x.count(5), 1);
        x.feed(256);
        is("one yet", x.count(5), 1);
        x.book();
        is("none", x.count(5), 0);
    }

    private void promise37Most() {
        test(37, "as many as there can be: 4 SORTS, 8 letters, 16 letters of WORDS, 24 ACTS, 120 bytes");
        InflatedRows x = Due.with("r3,9;" + "p9,9,dcba;".repeat(4) + "xdcbadcba;");
        is("SORTS", x.count(1), 4);
        is("letters", x.count(2), 8);
        is("letters of all WORDS", x.count(3), 16);
        for (int i = 0; i < 25; i++) x.length(0, 0, 0);
        is("ACTS", x.count(4), 24);
        for (int i = 0; i < 121; i++) x.feed(0);
        is("bytes", x.count(5), 120);
    }

    private void promise38None() {
        InflatedRows x = new InflatedRows();
        test(38, "0: there was no such call, or it was refused");
        is("new", x.status(), 0);
        x.row(8, 0, 1);
        x.begin(0, 1);
        x.as(0, 0);
        is("refused", x.status(), 0);
        test(38, "it is asked again and again");
        x.drop(0);
        is("1", x.status(), 1);
        is("1", x.status(), 1);
    }

    private void statusIs(String call, long answer, long due, int want) {
        is(call, answer, due);
        is("status() behind " + call, statusOf.status(), want);
    }

    private InflatedRows statusOf;

    private void promise38Rows() {
        InflatedRows x = new InflatedRows();
        statusOf = x;
        test(38, "row: SIZE is 4; 0: it had none");
        statusIs("row", x.row(0, 0, -1), SIZE, 4);
        statusIs("row", x.row(0, 0, 2), 2, 0);
        test(38, "set: NULL is 1, PLACE is 2; 0: it had none");
        statusIs("set", x.set(1, 0, 0), NULL, 1);
        statusIs("set", x.set(0, 2, 0), PLACE, 2);
        statusIs("set", x.set(0, 1, 0), 0, 0);
        test(38, "copy: NULL is 1, STORE is 5, PLACE is 2; 0: it had none");
        statusIs("copy", x.copy(0, 0, 1, 0, 1), NULL, 1);
        x.row(1, 1, 2);
        statusIs("copy", x.copy(0, 0, 1, 0, 1), STORE, 5);
        statusIs("copy", x.copy(0, 0, 0, 2, 1), PLACE, 2);
        statusIs("copy", x.copy(0, 0, 0, 1, 1), 1, 0);
        test(38, "drop: NULL is 1; 0: it had none");
        statusIs("drop", x.drop(7), NULL, 1);
        statusIs("drop", x.drop(1), 2, 0);
    }

    private void promise38Letters() {
        InflatedRows x = Due.with(FOUR);
        statusOf = x;
        Due.row(x, 0, 0, 4);
        test(38, "word: NULL is 1, PLACE is 2; 0: it had none");
        statusIs("word", x.word(0, 7, 1), NULL, 1);
        statusIs("word", x.word(0, 0, 3), PLACE, 2);
        statusIs("word", x.word(0, 0, 1), 2, 0);
        statusIs("word, no letter", x.word(0, 0, 2), PLACE, 2);
        test(38, "begin: NULL is 1, PLACE is 2; 0: it had none");
        statusIs("begin", x.begin(7, 1), NULL, 1);
        statusIs("begin", x.begin(0, 3), PLACE, 2);
        statusIs("begin", x.begin(0, 1), 1, 0);
        statusIs("begin, no letter", x.begin(0, 2), PLACE, 2);
        test(38, "back: NULL is 1, PLACE is 2; 0: it had none, also where it is NONE");
        statusIs("back", x.back(7, 1, -1), NULL, 1);
        statusIs("back", x.back(0, 1, -1), 1, 0);
        statusIs("back", x.back(0, 3, -1), PLACE, 2);
        statusIs("back", x.back(0, 1, 0), 0, 0);
        statusIs("back, no letter", x.back(0, 2, -1), PLACE, 2);
        statusIs("back", x.back(0, 1, 1), NONE, 0);
        test(38, "who: NULL is 1, PLACE is 2; 0: it had none");
        statusIs("who", x.who(0, 0, 0, 0, 7, 1), NULL, 1);
        statusIs("who", x.who(0, 0, 0, 0, 0, 1), bits(1, 2, 3, 4, 5), 0);
        statusIs("who", x.who(0, 0, 1, 0, 0, 3), PLACE, 2);
        statusIs("who", x.who(0, 0, 2, 0, 0, 2), 0, 0);
        test(38, "as: KIND is 3; 0: it had none");
        statusIs("as", x.as(0, 2), KIND, 3);
        statusIs("as", x.as(0, 0), 0, 0);
    }

    private void promise38Over() {
        InflatedRows x = Due.with("r1,1;p1,1,aaaa;f1,1,a;xa;");
        statusOf = x;
        test(38, "numbers: OVER is 6; 0: it had none");
        statusIs("numbers", x.numbers(0, 32), OVER, 6);
        statusIs("numbers", x.numbers(0, 31), 1L << 62, 0);
        test(38, "share: OVER is 6; 0: it had none");
        statusIs("share", x.share(1, 32, 0), OVER, 6);
        statusIs("share", x.share(1, 31, 0), 0, 0);
        test(38, "all: OVER is 6; 0: it had none");
        statusIs("all", x.all(32, 0), OVER, 6);
        statusIs("all", x.all(31, 0), 1L << 62, 0);
    }

    private void promise38Stays() {
        InflatedRows x = Due.with("r1,1;p1,1,aaaa;f1,1,a;xa;");
        statusOf = x;
        test(38, "what is BAD leaves it, of each such call");
        x.as(0, 2);
        statusIs("row", x.row(8, 0, 1), BAD, 3);
        statusIs("set", x.set(8, 0, 1), BAD, 3);
        statusIs("copy", x.copy(8, 0, 0, 0, 0), BAD, 3);
        statusIs("drop", x.drop(8), BAD, 3);
        statusIs("word", x.word(2, 0, 1), BAD, 3);
        statusIs("begin", x.begin(8, 1), BAD, 3);
        statusIs("back", x.back(8, 1, 0), BAD, 3);
        statusIs("who", x.who(0, 0, 3, 0, 0, 1), BAD, 3);
        statusIs("as", x.as(0, 6), BAD, 3);
        statusIs("numbers", x.numbers(0, 61), BAD, 3);
        statusIs("share", x.share(0, 61, 0), BAD, 3);
        statusIs("all", x.all(61, 0), BAD, 3);
        test(38, "what is STATE leaves it: begin, back, all");
        InflatedRows y = new InflatedRows();
        y.row(0, 0, -1);
        statusOf = y;
        statusIs("begin", y.begin(0, 1), STATE, 4);
        statusIs("back", y.back(0, 1, -1), STATE, 4);
        statusIs("all", y.all(0, 0), STATE, 4);
        test(38, "calls without a ROW, that never answer OVER, leave it");
        statusOf = x;
        statusIs("feed", x.feed('r'), 1, 3);
        statusIs("book", x.book(), -1000101, 3);
        statusIs("fault", x.fault(), 1, 3);
        statusIs("length", x.length(0, 0, 2), 1, 3);
        statusIs("become", x.become(1, 5), 4, 3);
        statusIs("root", x.root(0, 2), 1, 3);
        statusIs("inflate", x.inflate(), 4, 3);
        statusIs("undo", x.undo(), 3, 3);
        statusIs("sort", x.sort(0, 0), 2, 3);
        statusIs("letter", x.letter(0), 0, 3);
        statusIs("grown", x.grown(6, 0), FULL, 3);
        statusIs("origin", x.origin(1, 0, 1), 0, 3);
        statusIs("place", x.place(1, 1, 0), 2, 3);
        statusIs("whole", x.whole(0), 2, 3);
        statusIs("quiet", x.quiet(), 0, 3);
        statusIs("sets", x.sets(2, 0), 1, 3);
        statusIs("lost", x.lost(0, 0, 5, 1), 2, 3);
        statusIs("drawn", x.drawn(0, 1, 0), 0, 3);
        statusIs("image", x.image(0), 1, 3);
        statusIs("restore", x.restore(0), 1, 3);
        statusIs("kind", x.kind(0), 1, 3);
        statusIs("ask", x.ask(0, 1), 4, 3);
        statusIs("trace", x.trace(0), 21, 3);
        statusIs("count", x.count(1), 2, 3);
    }
}
