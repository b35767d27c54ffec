/** Promises 6 to 9: the tape, the text on it, its faults, and what is undone. */
public final class TextTest {
    private static final int BAD = -1000001, STATE = -1000002, FULL = -1000003;
    private static final Due due = new Due();

    public static void main(String[] args) {
        promise6();
        promise7Texts();
        promise7Reads();
        promise7FaultsOfTheLaw();
        promise7FaultsOfSorts();
        promise7FaultsOfTheRow();
        promise7StandsInPlace();
        promise7LeavesAllAtAFault();
        promise8();
        promise9();
        promise9Forgets();
        due.end("TextTest");
    }

    private static void promise6() {
        InflatedRows x = new InflatedRows();
        due.is("feed(0)", x.feed(0), 1);
        due.is("feed(255)", x.feed(255), 2);
        due.is("feed(-1)", x.feed(-1), BAD);
        due.is("feed(256)", x.feed(256), BAD);
        due.is("count(5)", x.count(5), 2);
        for (int i = 3; i <= 120; i++) due.is("feed, byte " + i, x.feed('r'), i);
        due.is("byte 121", x.feed('r'), FULL);
        due.is("BAD is ahead of FULL", x.feed(256), BAD);
        due.is("count(5)", x.count(5), 120);
        x.book();
        due.is("book() leaves the tape empty", x.count(5), 0);
        due.is("feed behind it", x.feed('r'), 1);
    }

    private static void promise7Texts() {
        reads("r0,1;p0,0,a;xa;", 1);
        reads("r3,9;p9,9,a;xa;", 1);
        reads("r03,09;p09,00,a;xa;", 1);
        reads("r0,1;p0,0,aaaa;xaaaaaaaa;", 1);
        reads("r0,1;p1,2,d;m3,4,c;l5,6,b;f7,8,a;xdcba;", 4);
        reads("r0,1;s1,2,ba;s3,4,ab;xba;", 2);
    }

    private static void reads(String text, int sorts) {
        due.is(text, Due.book(new InflatedRows(), text), sorts);
    }

    private static void promise7Reads() {
        InflatedRows x = Due.with("r2,7;p1,2,d;m3,4,cab;l5,6,b;f7,8,a;xdcba;");
        due.is("M", x.whole(0), 2);
        due.is("K", x.whole(1), 7);
        due.row("THE ROW", x, "dcba");
        for (int sort = 0; sort < 4; sort++) {
            due.is("kind(" + sort + ")", x.kind(sort), sort + 1);
            due.is("P of " + sort, x.sort(sort, 0), 2 * sort + 1);
            due.is("Q of " + sort, x.sort(sort, 1), 2 * sort + 2);
        }
        due.is("a WORD's size", x.sort(1, 2), 3);
        due.is("a WORD's letter 0", x.sort(1, 10), 2);
        due.is("a WORD's letter 1", x.sort(1, 11), 0);
        due.is("a WORD's letter 2", x.sort(1, 12), 1);
        due.is("a split one", Due.with("r0,1;s0,0,a;xa;").kind(0), 5);
    }

    private static void fault(String text, int number, int place) {
        InflatedRows x = new InflatedRows();
        due.is(text + ": book()", Due.book(x, text), -1000100 - place);
        due.is(text + ": fault()", x.fault(), number);
        due.is(text + ": no BOOK", x.count(1), 0);
        due.is(text + ": the tape is empty", x.count(5), 0);
    }

    private static void promise7FaultsOfTheLaw() {
        fault("", 1, 0);
        fault("p0,0,a;xa;", 1, 0);
        fault("R0,1;p0,0,a;xa;", 1, 0);
        fault(" r0,1;p0,0,a;xa;", 1, 0);
        fault("12r", 1, 0);
        fault("rr", 1, 1);
        fault("r", 1, 1);
        fault("r4,1;p0,0,a;xa;", 2, 1);
        fault("r99", 2, 1);
        fault("r000,1;p0,0,a;xa;", 1, 1);
        fault("r0000", 1, 1);
        fault("r0;1;", 1, 2);
        fault("r0 ,1;", 1, 2);
        fault("r0,,", 1, 3);
        fault("r0,0;p0,0,a;xa;", 2, 3);
        fault("r0,10;p0,0,a;xa;", 2, 3);
        fault("r0,1,", 1, 4);
        fault("r0,1", 1, 4);
        fault("r4,0;", 2, 1);
        fault("r0,123", 1, 3);
    }

    private static void promise7FaultsOfSorts() {
        fault("r0,1;", 1, 5);
        fault("r0,1;xa;", 1, 5);
        fault("r0,1;q0,0,a;xa;", 1, 5);
        fault("r0,1;0", 1, 5);
        fault("r0,1;pp", 1, 6);
        fault("r0,1;p10,0,a;xa;", 2, 6);
        fault("r0,1;p0,10,a;xa;", 2, 8);
        fault("r0,1;p100,0,a;xa;", 1, 6);
        fault("r0,1;p0;", 1, 7);
        fault("r0,1;p0,0;", 1, 9);
        fault("r0,1;p0,0,;xa;", 1, 10);
        fault("r0,1;p0,0,e;xa;", 1, 10);
        fault("r0,1;p0,0,A;xa;", 1, 10);
        fault("r0,1;p0,0,1;xa;", 1, 10);
        fault("r0,1;p0,0,abe;xa;", 1, 12);
        fault("r0,1;p0,0,abcda;xa;", 1, 14);
        fault("r0,1;p0,0,abcd,xa;", 1, 14);
        String four = "r0,1;p0,0,a;p0,0,a;p0,0,a;p0,0,a;";
        fault(four + "p0,0,a;xa;", 3, 33);
        fault(four + "s", 3, 33);
        fault(four + "q", 1, 33);
        fault(four + "a", 1, 33);
        fault(four, 1, 33);
        fault("r0,1;p0,0,a;" + (char) 233, 1, 12);
    }

    private static void promise7FaultsOfTheRow() {
        fault("r0,1;p0,0,a;", 1, 12);
        fault("r0,1;p0,0,a;x", 1, 13);
        fault("r0,1;p0,0,a;x;", 1, 13);
        fault("r0,1;p0,0,a;xe;", 1, 13);
        fault("r0,1;p0,0,a;x0;", 1, 13);
        fault("r0,1;p0,0,a;xaaaaaaaaa;", 1, 21);
        fault("r0,1;p0,0,a;xa", 1, 14);
        fault("r0,1;p0,0,a;xa,", 1, 14);
        fault("r0,1;p0,0,a;xa;;", 1, 15);
        fault("r0,1;p0,0,a;xa;p0,0,a;", 1, 15);
        fault("r0,1;p0,0,a;xa;xa;", 1, 15);
        fault("r0,1;p0,0,b;xa;", 4, 15);
        fault("r0,1;p0,0,a;xb;", 4, 15);
        fault("r0,1;p0,0,a;p0,0,c;xad;", 4, 23);
        fault("r0,1;f0,0,d;xa;", 4, 15);
        fault("r0,1;p0,0,b;xa", 1, 14);
        fault("r0,1;p0,0,b;xa; ", 1, 15);
    }

    private static void promise7StandsInPlace() {
        InflatedRows x = Due.with("r1,1;p1,1,ab;p1,1,a;xab;");
        x.row(0, 0, 3);
        x.image(1);
        x.inflate();
        x.length(0, 0, 5);
        x.ask(0, 0);
        due.is("another BOOK", Due.book(x, "r0,2;f3,4,a;xaa;"), 1);
        due.is("SORTS", x.count(1), 1);
        due.is("THE ROW", x.count(2), 2);
        due.is("letters of all WORDS", x.count(3), 1);
        due.is("no ACT can be undone", x.count(4), 0);
        due.is("undo()", x.undo(), STATE);
        due.is("ROWS stay", x.count(0), 1);
        due.is("THE TRACE stays", x.trace(0), 11);
        due.is("IMAGES stay", x.restore(1), 1);
        due.is("the IMAGE's SORTS", x.count(1), 2);
    }

    private static void promise7LeavesAllAtAFault() {
        InflatedRows x = Due.with("r1,1;p1,1,ab;p1,1,a;xab;");
        x.row(0, 0, 3);
        x.length(0, 0, 5);
        due.is("a FAULT", Due.book(x, "r0,2;f3,4,b;xa;"), -1000115);
        due.is("SORTS", x.count(1), 2);
        due.is("M", x.whole(0), 1);
        due.is("K", x.whole(1), 1);
        due.is("P", x.sort(0, 0), 5);
        due.is("kind(0)", x.kind(0), 1);
        due.is("ACTS", x.count(4), 1);
        due.row("THE ROW", x, "ab");
        due.is("undo()", x.undo(), 0);
        due.is("P, undone", x.sort(0, 0), 1);
    }

    private static void promise8() {
        InflatedRows x = new InflatedRows();
        due.is("fault() before one", x.fault(), 0);
        Due.book(x, "r9");
        due.is("fault() 2", x.fault(), 2);
        Due.book(x, "r0,1;p0,0,a;xa;");
        due.is("a text without one leaves it", x.fault(), 2);
        Due.book(x, "r0,1;p0,0,a;xb;");
        due.is("fault() 4", x.fault(), 4);
        Due.book(x, "x");
        due.is("fault() 1", x.fault(), 1);
    }

    private static void promise9() {
        InflatedRows x = new InflatedRows();
        due.is("undo() without a BOOK", x.undo(), STATE);
        Due.book(x, "r1,1;p1,1,ab;p1,1,a;xab;");
        due.is("undo() of none", x.undo(), STATE);
        Due.row(x, 0, 1, 1, 0);
        x.word(0, 0, 3);
        x.length(1, 1, 7);
        x.root(0, 3);
        x.root(1, 8);
        x.begin(0, 1);
        x.become(1, 3);
        x.inflate();
        due.is("ACTS", x.count(4), 7);
        due.row("inflated", x, "a");
        due.is("undo inflate", x.undo(), 6);
        due.row("not inflated", x, "b");
        due.is("undo become", x.undo(), 5);
        due.is("kind(1)", x.kind(1), 1);
        due.is("undo begin", x.undo(), 4);
        due.row("as it began", x, "ab");
        due.is("undo root", x.undo(), 3);
        due.is("K", x.whole(1), 1);
        due.is("M yet", x.whole(0), 3);
        due.is("undo root", x.undo(), 2);
        due.is("M", x.whole(0), 1);
        due.is("undo length", x.undo(), 1);
        due.is("Q", x.sort(1, 1), 1);
        due.is("undo word", x.undo(), 0);
        due.is("WORD", x.sort(0, 2), 2);
        due.is("WORD's letter 0", x.sort(0, 10), 0);
        due.is("undo() of none", x.undo(), STATE);
    }

    private static void promise9Forgets() {
        InflatedRows x = Due.with("r1,1;p0,0,a;xa;");
        for (int i = 1; i <= 30; i++) {
            x.length(0, 0, i % 10);
            due.is("ACTS", x.count(4), Math.min(i, 24));
        }
        for (int i = 29; i >= 6; i--) {
            due.is("undo", x.undo(), i - 6);
            due.is("P", x.sort(0, 0), i % 10);
        }
        due.is("the oldest are forgotten", x.undo(), STATE);
        x.length(0, 0, 6);
        due.is("an ACT by which nothing becomes another", x.count(4), 1);
        x.inflate();
        due.is("nor by this one", x.count(4), 2);
        due.is("undo", x.undo(), 1);
    }
}
