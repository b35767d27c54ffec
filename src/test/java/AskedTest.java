/** Promises 33 to 38: what is asked of SORTS, and of all. */
public final class AskedTest {
    private static final int NONE = -1000000, BAD = -1000001, KIND = -1000013;
    private static final String BOOK = "r1,1;p1,9,ab;m2,9,abc;l3,9,abcd;f4,9,ab;xa;";
    private static final Due due = new Due();

    public static void main(String[] args) {
        promise33();
        promise34();
        promise35();
        promise35Refusals();
        promise36();
        promise37();
        promise38Rows();
        promise38Others();
        due.end("AskedTest");
    }

    private static void promise33() {
        InflatedRows x = Due.with(BOOK);
        for (int sort = 0; sort < 4; sort++) due.is("kind(" + sort + ")", x.kind(sort), sort + 1);
        due.is("a split one", Due.with("r1,1;s1,1,a;xa;").kind(0), 5);
        due.is("kind(4)", x.kind(4), BAD);
        due.is("kind(-1)", x.kind(-1), BAD);
        due.is("no BOOK", new InflatedRows().kind(0), BAD);
    }

    private static void promise34() {
        InflatedRows x = Due.with(BOOK);
        String[] isA = {"10", "210", "310", "40", "540"};
        for (int kind = 1; kind <= 5; kind++) {
            if (x.kind(2) != kind) x.become(2, kind);
            for (int wanted = 0; wanted <= 5; wanted++) {
                boolean is = isA[kind - 1].indexOf('0' + wanted) >= 0;
                due.is("as(2, " + wanted + ") of KIND " + kind, x.as(2, wanted), is ? 2 : KIND);
                due.is("status()", x.status(), is ? 0 : 3);
            }
        }
        due.is("as(4, 0)", x.as(4, 0), BAD);
        due.is("as(-1, 0)", x.as(-1, 0), BAD);
        due.is("as(0, 6)", x.as(0, 6), BAD);
        due.is("as(0, -1)", x.as(0, -1), BAD);
        due.is("no BOOK", new InflatedRows().as(0, 0), BAD);
    }

    private static void asked(InflatedRows x, int one, int what, int answer, int... trace) {
        String call = "ask(" + one + ", " + what + ")";
        due.is(call, x.ask(one, what), answer);
        for (int i = 0; i < 16; i++) {
            due.is(call + ", trace(" + i + ")", x.trace(i), i < trace.length ? trace[i] : NONE);
        }
    }

    private static void promise35() {
        InflatedRows x = Due.with(BOOK);
        asked(x, 0, 0, 3, 11, 10, 21, 20);
        asked(x, 0, 1, 2, 21, 20);
        asked(x, 1, 0, -10, 12, 11, 10, 24, 21, 20);
        asked(x, 1, 1, 8, 24, 21, 20);
        asked(x, 2, 0, -991, 11, 10, 22, 21, 20);
        asked(x, 2, 1, -994, 22, 21, 20);
        asked(x, 3, 0, -96, 13, 10);
        asked(x, 3, 1, 99, 23, 20, 13, 10);
        x.become(3, 5);
        asked(x, 3, 0, -192, 14, 13, 10);
        asked(x, 3, 1, 195, 23, 20, 14, 13, 10);
    }

    private static void promise35Refusals() {
        InflatedRows x = Due.with(BOOK);
        x.ask(3, 1);
        due.is("ask(4, 0)", x.ask(4, 0), BAD);
        due.is("ask(-1, 0)", x.ask(-1, 0), BAD);
        due.is("ask(0, 2)", x.ask(0, 2), BAD);
        due.is("ask(0, -1)", x.ask(0, -1), BAD);
        due.is("THE TRACE stays", x.trace(3), 10);
        due.is("no BOOK", new InflatedRows().ask(0, 0), BAD);
    }

    private static void promise36() {
        InflatedRows x = Due.with(BOOK);
        due.is("before an ask", x.trace(0), NONE);
        x.ask(1, 0);
        due.is("trace(-1)", x.trace(-1), NONE);
        due.is("trace(0)", x.trace(0), 12);
        due.is("trace(5)", x.trace(5), 20);
        due.is("trace(6)", x.trace(6), NONE);
        due.is("trace(16)", x.trace(16), NONE);
        due.is("trace(the most)", x.trace(Integer.MAX_VALUE), NONE);
        x.ask(0, 1);
        due.is("it is empty ahead of each", x.trace(2), NONE);
    }

    private static void promise37() {
        InflatedRows x = Due.with(BOOK);
        x.row(2, 0, 0);
        x.row(5, 1, 3);
        x.row(5, 2, 3);
        x.length(0, 0, 0);
        x.feed('r');
        x.feed('r');
        x.feed('r');
        int[] wants = {2, 4, 1, 11, 1, 3};
        for (int what = 0; what <= 5; what++) due.is("count(" + what + ")", x.count(what), wants[what]);
        due.is("count(6)", x.count(6), BAD);
        due.is("count(-1)", x.count(-1), BAD);
        x.inflate();
        due.is("count(2)", x.count(2), 2);
        x.drop(2);
        due.is("count(0)", x.count(0), 1);
    }

    private static void promise38Rows() {
        InflatedRows x = new InflatedRows();
        due.is("there was none", x.status(), 0);
        status(x, x.row(0, 0, -1), 4);
        status(x, x.row(0, 0, 41), 4);
        status(x, x.row(0, 0, 2), 0);
        status(x, x.set(1, 0, 0), 1);
        status(x, x.set(9, 0, 0), 1);
        status(x, x.set(0, 0, 0), 0);
        status(x, x.set(0, 2, 0), 2);
        status(x, x.row(1, 1, 2), 0);
        status(x, x.copy(0, 0, 1, 0, 1), 5);
        status(x, x.copy(0, 0, 0, 0, 1), 0);
        status(x, x.copy(0, 0, 0, 0, 3), 2);
        status(x, x.copy(0, 0, 2, 0, 1), 1);
        status(x, x.copy(0, 0, 0, 0, 1), 0);
        status(x, x.drop(7), 1);
        status(x, x.drop(1), 0);
        status(x, x.drop(1), 1);
        status(x, x.begin(0, 1), 1);
        due.is("a call without a BOOK is STATE", x.begin(0, 1), -1000002);
        Due.book(x, "r1,1;p1,1,aaaa;f1,1,a;xa;");
        due.is("book() changes nothing of it", x.status(), 1);
        status(x, x.word(0, 0, 1), 0);
        status(x, x.word(0, 0, 3), 2);
        status(x, x.begin(0, 1), 0);
        status(x, x.begin(1, 1), 1);
        status(x, x.back(0, 1, -1), 0);
        status(x, x.back(0, 3, -1), 2);
        status(x, x.back(0, 1, 0), 0);
        status(x, x.back(1, 1, 0), 1);
        status(x, x.who(0, 0, 0, 0, 0, 1), 0);
        status(x, x.who(0, 0, 0, 0, 0, 3), 2);
        status(x, x.who(0, 0, 1, 0, 0, 1), 0);
        status(x, x.who(0, 0, 0, 0, 1, 1), 1);
        status(x, x.who(0, 0, 2, 0, 0, 1), 0);
    }

    private static void promise38Others() {
        InflatedRows x = Due.with("r1,1;p1,1,aaaa;f1,1,a;xa;");
        status(x, x.as(0, 2), 3);
        status(x, x.as(0, 6), 3);
        status(x, x.as(0, 0), 0);
        status(x, x.numbers(0, 60), 6);
        status(x, x.numbers(0, 61), 6);
        status(x, x.numbers(0, 1), 0);
        status(x, x.share(0, 60, 1), 6);
        status(x, x.share(0, 1, 1), 0);
        status(x, x.all(60, 0), 6);
        status(x, x.grown(1, 1), 6);
        status(x, x.grown(6, 1), 6);
        status(x, x.place(0, 0, 0), 6);
        status(x, x.lost(0, 0, 0, 0), 6);
        status(x, x.inflate(), 6);
        status(x, x.undo(), 6);
        status(x, x.ask(0, 0), 6);
        status(x, x.kind(0), 6);
        status(x, x.all(1, 0), 0);
    }

    /** The answer itself is looked at elsewhere: the call only has to be made ahead of status(). */
    private static void status(InflatedRows x, long answer, int want) {
        due.is("status() behind the answer " + answer, x.status(), want);
    }
}
