import java.util.function.ToLongFunction;

/** What is refused, or found, or only asked, changes nothing but status(): for each call that can be so. */
public final class EdgesOfRefusalsTest extends Edges {
    private static final int STATUS_AHEAD = 3;

    private final String untouched = Autopsy.of(told());

    private EdgesOfRefusalsTest() {
        super(2, 38);
    }

    public static void main(String[] args) {
        EdgesOfRefusalsTest edges = new EdgesOfRefusalsTest();
        edges.seesAll();
        edges.rows();
        edges.copies();
        edges.texts();
        edges.words();
        edges.changes();
        edges.begins();
        edges.grows();
        edges.numbers();
        edges.backs();
        edges.whos();
        edges.foretold();
        edges.asked();
        edges.asksChangeNothing();
        edges.foretellingChangesNothing();
        edges.statusOfAsks();
        edges.withoutBook();
        edges.atTheirMost();
        edges.end();
    }

    /**
     * Of all that there is a little: two SORTS, three ROWS of three LANES, one IMAGE, two ACTS, two bytes, a FAULT,
     * a TRACE, a FINDING.
     */
    private static InflatedRows told() {
        InflatedRows x = new InflatedRows();
        Due.book(x, "r");
        Due.book(x, "r1,2;p1,2,aabb;m3,4,ba;xabab;");
        x.row(0, 0, 3);
        x.set(0, 1, 1);
        x.row(1, 1, 2);
        x.set(1, 0, 1);
        x.set(1, 1, 5);
        x.row(2, 2, 40);
        x.image(1);
        x.length(0, 0, 5);
        x.become(1, 3);
        Due.feed(x, "r1");
        x.ask(1, 0);
        x.as(0, 2);
        return x;
    }

    /** The call is made on one object and not on another, of which all else must be seen alike. */
    private void refused(int promise, String call, ToLongFunction<InflatedRows> made, int answer) {
        test(promise, "what is refused or found changes nothing: " + call);
        InflatedRows x = told();
        is(call, made.applyAsLong(x), answer);
        is("status()", x.status(), answer <= NULL && answer >= OVER ? -1000010 - answer : STATUS_AHEAD);
        same("all that can be seen", Autopsy.of(x), untouched);
    }

    private void asks(int promise, String call, ToLongFunction<InflatedRows> made, int status) {
        test(promise, "nothing changes by what is only asked: " + call);
        InflatedRows x = told();
        long answer = made.applyAsLong(x);
        is("status()", x.status(), status);
        same("all that can be seen behind the answer " + answer, Autopsy.of(x), untouched);
    }

    private void differs(int promise, String call, ToLongFunction<InflatedRows> made) {
        test(promise, "what is done is seen by the look that these tests take: " + call);
        InflatedRows x = told();
        is(call + " was done", made.applyAsLong(x) >= 0 ? 1 : 0, 1);
        is("something is seen to be another", Autopsy.of(x).equals(untouched) ? 0 : 1, 1);
    }

    /** A look that sees nothing would find all alike. */
    private void seesAll() {
        differs(2, "row(2, 2, 39)", x -> x.row(2, 2, 39));
        differs(2, "row(2, 1, 40)", x -> x.row(2, 1, 40));
        differs(2, "row(3, 0, 0)", x -> x.row(3, 0, 0));
        differs(3, "set(0, 2, 1)", x -> x.set(0, 2, 1));
        differs(3, "set(1, 1, 1)", x -> x.set(1, 1, 1));
        differs(4, "copy(0, 0, 0, 1, 2)", x -> x.copy(0, 0, 0, 1, 2));
        differs(5, "drop(2)", x -> x.drop(2));
        differs(6, "feed(49)", x -> x.feed(49));
        differs(9, "undo()", x -> x.undo());
        differs(10, "word(1, 2, 1)", x -> x.word(1, 2, 1));
        differs(11, "length(0, 0, 5)", x -> x.length(0, 0, 5));
        differs(12, "become(0, 3)", x -> x.become(0, 3));
        differs(13, "root(1, 2)", x -> x.root(1, 2));
        differs(14, "begin(0, 3)", x -> x.begin(0, 3));
        differs(31, "image(0)", x -> x.image(0));
        differs(31, "image(1)", x -> x.image(1));
        differs(32, "restore(1)", x -> x.restore(1));
        differs(35, "ask(0, 1)", x -> x.ask(0, 1) + 1);
    }

    private void rows() {
        refused(2, "row(-1, 0, 1)", x -> x.row(-1, 0, 1), BAD);
        refused(2, "row(8, 0, 1)", x -> x.row(8, 0, 1), BAD);
        refused(2, "row(0, -1, 1)", x -> x.row(0, -1, 1), BAD);
        refused(2, "row(0, 3, 1)", x -> x.row(0, 3, 1), BAD);
        refused(2, "row(0, 0, 41)", x -> x.row(0, 0, 41), BAD);
        refused(2, "row(0, 0, -1)", x -> x.row(0, 0, -1), SIZE);
        refused(2, "row(3, 1, -1)", x -> x.row(3, 1, -1), SIZE);
        refused(3, "set(-1, 0, 1)", x -> x.set(-1, 0, 1), BAD);
        refused(3, "set(8, 0, 1)", x -> x.set(8, 0, 1), BAD);
        refused(3, "set(3, 0, 1)", x -> x.set(3, 0, 1), NULL);
        refused(3, "set(0, 3, 1)", x -> x.set(0, 3, 1), PLACE);
        refused(3, "set(1, -1, 1)", x -> x.set(1, -1, 1), PLACE);
        refused(5, "drop(-1)", x -> x.drop(-1), BAD);
        refused(5, "drop(8)", x -> x.drop(8), BAD);
        refused(5, "drop(3)", x -> x.drop(3), NULL);
    }

    private void copies() {
        refused(4, "copy(-1, 0, 0, 0, 1)", x -> x.copy(-1, 0, 0, 0, 1), BAD);
        refused(4, "copy(0, 0, 8, 0, 1)", x -> x.copy(0, 0, 8, 0, 1), BAD);
        refused(4, "copy(3, 0, 0, 0, 1)", x -> x.copy(3, 0, 0, 0, 1), NULL);
        refused(4, "copy(0, 0, 3, 0, 1)", x -> x.copy(0, 0, 3, 0, 1), NULL);
        refused(4, "copy(1, 0, 0, 0, 1)", x -> x.copy(1, 0, 0, 0, 1), STORE);
        refused(4, "copy(0, -1, 0, 1, 2)", x -> x.copy(0, -1, 0, 1, 2), PLACE);
        refused(4, "copy(0, 1, 0, -1, 2)", x -> x.copy(0, 1, 0, -1, 2), PLACE);
        refused(4, "copy(0, 1, 0, 0, -1)", x -> x.copy(0, 1, 0, 0, -1), PLACE);
        refused(4, "copy(0, 1, 0, 0, 3)", x -> x.copy(0, 1, 0, 0, 3), PLACE);
        refused(4, "copy(0, 0, 0, 1, 3)", x -> x.copy(0, 0, 0, 1, 3), PLACE);
    }

    private void texts() {
        refused(6, "feed(-1)", x -> x.feed(-1), BAD);
        refused(6, "feed(256)", x -> x.feed(256), BAD);
        test(6, "what is refused changes nothing: feed, FULL");
        InflatedRows x = new InflatedRows();
        InflatedRows y = new InflatedRows();
        String text = "r1,1;p1,1,a;xa;" + " ".repeat(105);
        Due.feed(x, text);
        Due.feed(y, text);
        is("feed", x.feed('a'), FULL);
        is("book", x.book(), y.book());
        same("all that can be seen", Autopsy.of(x), Autopsy.of(y));
        test(7, "a text with a FAULT changes nothing, but the tape");
        InflatedRows v = told();
        is("book", v.book(), -1000102);
        is("status()", v.status(), STATUS_AHEAD);
        is("count(5)", v.count(5), 0);
        Due.feed(v, "r1");
        same("all that can be seen", Autopsy.of(v), untouched);
        test(9, "what is refused changes nothing: undo");
        InflatedRows z = told();
        InflatedRows w = told();
        while (z.undo() >= 0) w.undo();
        is("undo", z.undo(), STATE);
        is("status()", z.status(), STATUS_AHEAD);
        same("all that can be seen", Autopsy.of(z), Autopsy.of(w));
    }

    private void words() {
        refused(10, "word(-1, 0, 1)", x -> x.word(-1, 0, 1), BAD);
        refused(10, "word(2, 0, 1)", x -> x.word(2, 0, 1), BAD);
        refused(10, "word(0, -1, 1)", x -> x.word(0, -1, 1), BAD);
        refused(10, "word(0, 8, 1)", x -> x.word(0, 8, 1), BAD);
        refused(10, "word(0, 0, 0)", x -> x.word(0, 0, 0), BAD);
        refused(10, "word(0, 2, 5)", x -> x.word(0, 2, 5), BAD);
        refused(10, "word(0, 3, 1)", x -> x.word(0, 3, 1), NULL);
        refused(10, "word(0, 0, 4)", x -> x.word(0, 0, 4), PLACE);
        refused(10, "word(0, 1, 2)", x -> x.word(0, 1, 2), PLACE);
    }

    private void changes() {
        refused(11, "length(-1, 0, 1)", x -> x.length(-1, 0, 1), BAD);
        refused(11, "length(2, 0, 1)", x -> x.length(2, 0, 1), BAD);
        refused(11, "length(0, -1, 1)", x -> x.length(0, -1, 1), BAD);
        refused(11, "length(0, 2, 1)", x -> x.length(0, 2, 1), BAD);
        refused(11, "length(0, 0, -1)", x -> x.length(0, 0, -1), BAD);
        refused(11, "length(0, 1, 10)", x -> x.length(0, 1, 10), BAD);
        refused(12, "become(-1, 1)", x -> x.become(-1, 1), BAD);
        refused(12, "become(2, 1)", x -> x.become(2, 1), BAD);
        refused(12, "become(0, 0)", x -> x.become(0, 0), BAD);
        refused(12, "become(0, 6)", x -> x.become(0, 6), BAD);
        refused(12, "become(0, 1)", x -> x.become(0, 1), STATE);
        refused(12, "become(1, 3)", x -> x.become(1, 3), STATE);
        refused(13, "root(-1, 1)", x -> x.root(-1, 1), BAD);
        refused(13, "root(2, 1)", x -> x.root(2, 1), BAD);
        refused(13, "root(0, -1)", x -> x.root(0, -1), BAD);
        refused(13, "root(0, 4)", x -> x.root(0, 4), BAD);
        refused(13, "root(1, 0)", x -> x.root(1, 0), BAD);
        refused(13, "root(1, 10)", x -> x.root(1, 10), BAD);
    }

    private void begins() {
        refused(14, "begin(-1, 1)", x -> x.begin(-1, 1), BAD);
        refused(14, "begin(8, 1)", x -> x.begin(8, 1), BAD);
        refused(14, "begin(0, 0)", x -> x.begin(0, 0), BAD);
        refused(14, "begin(2, 9)", x -> x.begin(2, 9), BAD);
        refused(14, "begin(3, 1)", x -> x.begin(3, 1), NULL);
        refused(14, "begin(0, 4)", x -> x.begin(0, 4), PLACE);
        refused(14, "begin(1, 2)", x -> x.begin(1, 2), PLACE);
        refused(15, "inflate()", x -> x.inflate(), FULL);
        refused(16, "sort(2, 0)", x -> x.sort(2, 0), BAD);
        refused(16, "sort(0, 4)", x -> x.sort(0, 4), BAD);
        refused(16, "sort(1, 12)", x -> x.sort(1, 12), NONE);
        refused(17, "letter(-1)", x -> x.letter(-1), BAD);
        refused(17, "letter(4)", x -> x.letter(4), NONE);
    }

    private void grows() {
        refused(18, "grown(7, 0)", x -> x.grown(7, 0), BAD);
        refused(18, "grown(0, -2)", x -> x.grown(0, -2), BAD);
        refused(18, "grown(4, 0)", x -> x.grown(4, 0), FULL);
        refused(18, "grown(0, 4)", x -> x.grown(0, 4), NONE);
        refused(19, "origin(7, 0, 0)", x -> x.origin(7, 0, 0), BAD);
        refused(19, "origin(1, 12, 0)", x -> x.origin(1, 12, 0), BAD);
        refused(19, "origin(1, 0, 2)", x -> x.origin(1, 0, 2), BAD);
        refused(19, "origin(4, 0, 0)", x -> x.origin(4, 0, 0), FULL);
        refused(20, "place(7, 0, 0)", x -> x.place(7, 0, 0), BAD);
        refused(20, "place(0, -1, 0)", x -> x.place(0, -1, 0), BAD);
        refused(20, "place(0, 0, 2)", x -> x.place(0, 0, 2), BAD);
        refused(20, "place(4, 0, 0)", x -> x.place(4, 0, 0), FULL);
        refused(20, "place(0, 4, 0)", x -> x.place(0, 4, 0), NONE);
    }

    private void numbers() {
        refused(21, "numbers(2, 0)", x -> x.numbers(2, 0), BAD);
        refused(21, "numbers(0, 61)", x -> x.numbers(0, 61), BAD);
        refused(21, "numbers(0, 60)", x -> x.numbers(0, 60), OVER);
        refused(22, "share(2, 0, 0)", x -> x.share(2, 0, 0), BAD);
        refused(22, "share(0, 61, 0)", x -> x.share(0, 61, 0), BAD);
        refused(22, "share(0, 60, 2)", x -> x.share(0, 60, 2), BAD);
        refused(22, "share(0, 60, 0)", x -> x.share(0, 60, 0), OVER);
        refused(23, "all(61, 0)", x -> x.all(61, 0), BAD);
        refused(23, "all(60, 2)", x -> x.all(60, 2), BAD);
        refused(23, "all(60, 0)", x -> x.all(60, 0), OVER);
        refused(24, "whole(-1)", x -> x.whole(-1), BAD);
        refused(24, "whole(7)", x -> x.whole(7), BAD);
        // Of 5, 2 and twice 3, 4 by R R being R and 2: 22, 20 for a is 5 s and 4 t, 2 s and 7 t: of no such two.
        refused(24, "whole(5)", x -> x.whole(5), NONE);
        refused(24, "whole(6)", x -> x.whole(6), NONE);
    }

    private void backs() {
        refused(25, "back(-1, 1, -1)", x -> x.back(-1, 1, -1), BAD);
        refused(25, "back(8, 1, -1)", x -> x.back(8, 1, -1), BAD);
        refused(25, "back(0, 0, -1)", x -> x.back(0, 0, -1), BAD);
        refused(25, "back(0, 41, -1)", x -> x.back(0, 41, -1), BAD);
        refused(25, "back(0, 1, -2)", x -> x.back(0, 1, -2), BAD);
        refused(25, "back(3, 1, -1)", x -> x.back(3, 1, -1), NULL);
        refused(25, "back(0, 4, -1)", x -> x.back(0, 4, -1), PLACE);
        refused(25, "back(1, 2, -1)", x -> x.back(1, 2, -1), PLACE);
    }

    private void whos() {
        refused(26, "who(2, 0, 0, 0, 0, 1)", x -> x.who(2, 0, 0, 0, 0, 1), BAD);
        refused(26, "who(0, 4, 1, 0, 0, 1)", x -> x.who(0, 4, 1, 0, 0, 1), BAD);
        refused(26, "who(1, 2, 2, 0, 0, 1)", x -> x.who(1, 2, 2, 0, 0, 1), BAD);
        refused(26, "who(0, 0, 3, 0, 0, 1)", x -> x.who(0, 0, 3, 0, 0, 1), BAD);
        refused(26, "who(0, 0, 0, 7, 0, 1)", x -> x.who(0, 0, 0, 7, 0, 1), BAD);
        refused(26, "who(0, 0, 0, 0, 8, 1)", x -> x.who(0, 0, 0, 0, 8, 1), BAD);
        refused(26, "who(0, 0, 0, 0, 0, 41)", x -> x.who(0, 0, 0, 0, 0, 41), BAD);
        refused(26, "who(0, 0, 0, 0, 3, 1)", x -> x.who(0, 0, 0, 0, 3, 1), NULL);
        refused(26, "who(0, 0, 1, 0, 0, 4)", x -> x.who(0, 0, 1, 0, 0, 4), PLACE);
    }

    private void foretold() {
        refused(28, "sets(-1, 0)", x -> x.sets(-1, 0), BAD);
        refused(28, "sets(100, 0)", x -> x.sets(100, 0), BAD);
        refused(28, "sets(0, 3)", x -> x.sets(0, 3), BAD);
        refused(29, "lost(2, 0, 0, 0)", x -> x.lost(2, 0, 0, 0), BAD);
        refused(29, "lost(0, 41, 0, 0)", x -> x.lost(0, 41, 0, 0), BAD);
        refused(29, "lost(0, 0, 11, 0)", x -> x.lost(0, 0, 11, 0), BAD);
        refused(29, "lost(0, 0, 0, 2)", x -> x.lost(0, 0, 0, 2), BAD);
        refused(30, "drawn(31, 1, 0)", x -> x.drawn(31, 1, 0), BAD);
        refused(30, "drawn(1, 0, 0)", x -> x.drawn(1, 0, 0), BAD);
        refused(30, "drawn(1, 1, 2)", x -> x.drawn(1, 1, 2), BAD);
        refused(31, "image(-1)", x -> x.image(-1), BAD);
        refused(31, "image(2)", x -> x.image(2), BAD);
        refused(32, "restore(-1)", x -> x.restore(-1), BAD);
        refused(32, "restore(2)", x -> x.restore(2), BAD);
        refused(32, "restore(0)", x -> x.restore(0), STATE);
    }

    private void asked() {
        refused(33, "kind(2)", x -> x.kind(2), BAD);
        refused(34, "as(2, 0)", x -> x.as(2, 0), BAD);
        refused(34, "as(0, 6)", x -> x.as(0, 6), BAD);
        refused(34, "as(0, 3)", x -> x.as(0, 3), KIND);
        refused(35, "ask(2, 0)", x -> x.ask(2, 0), BAD);
        refused(35, "ask(0, 2)", x -> x.ask(0, 2), BAD);
        refused(36, "trace(-1)", x -> x.trace(-1), NONE);
        refused(36, "trace(16)", x -> x.trace(16), NONE);
        refused(37, "count(-1)", x -> x.count(-1), BAD);
        refused(37, "count(6)", x -> x.count(6), BAD);
    }

    private void asksChangeNothing() {
        asks(8, "fault()", x -> x.fault(), STATUS_AHEAD);
        asks(16, "sort(0, 23)", x -> x.sort(0, 23), STATUS_AHEAD);
        asks(17, "letter(3)", x -> x.letter(3), STATUS_AHEAD);
        asks(18, "grown(3, -1)", x -> x.grown(3, -1), STATUS_AHEAD);
        asks(19, "origin(3, 50, 2)", x -> x.origin(3, 50, 2), STATUS_AHEAD);
        asks(20, "place(3, 50, 1)", x -> x.place(3, 50, 1), STATUS_AHEAD);
        asks(24, "whole(3)", x -> x.whole(3), STATUS_AHEAD);
        asks(33, "kind(1)", x -> x.kind(1), STATUS_AHEAD);
        asks(36, "trace(0)", x -> x.trace(0), STATUS_AHEAD);
        asks(37, "count(0)", x -> x.count(0), STATUS_AHEAD);
        asks(38, "status()", x -> x.status(), STATUS_AHEAD);
    }

    private void foretellingChangesNothing() {
        asks(26, "who(0, 0, 0, 3, 2, 40)", x -> x.who(0, 0, 0, 3, 2, 40), 0);
        asks(26, "who(1, 3, 1, 3, 2, 1)", x -> x.who(1, 3, 1, 3, 2, 1), 0);
        asks(26, "who(1, 1, 2, 3, 2, 1)", x -> x.who(1, 1, 2, 3, 2, 1), 0);
        asks(27, "quiet()", x -> x.quiet(), STATUS_AHEAD);
        asks(28, "sets(5, 2)", x -> x.sets(5, 2), STATUS_AHEAD);
        asks(29, "lost(0, 3, 3, 0)", x -> x.lost(0, 3, 3, 0), STATUS_AHEAD);
        asks(30, "drawn(30, 7, 0)", x -> x.drawn(30, 7, 0), STATUS_AHEAD);
        asks(30, "drawn(30, 7, 1)", x -> x.drawn(30, 7, 1), STATUS_AHEAD);
    }

    private void statusOfAsks() {
        asks(21, "numbers(0, 3)", x -> x.numbers(0, 3), 0);
        asks(22, "share(0, 3, 1)", x -> x.share(0, 3, 1), 0);
        asks(23, "all(3, 1)", x -> x.all(3, 1), 0);
        asks(25, "back(0, 3, -1)", x -> x.back(0, 3, -1), 0);
        asks(25, "back(2, 40, 0)", x -> x.back(2, 40, 0), 0);
        asks(34, "as(1, 1)", x -> x.as(1, 1), 0);
    }

    private static InflatedRows bookless() {
        InflatedRows x = new InflatedRows();
        Due.book(x, "r4");
        x.row(0, 0, 3);
        x.set(0, 1, 1);
        Due.feed(x, "r1");
        x.row(1, 0, -1);
        return x;
    }

    private void refusedBookless(int promise, String call, ToLongFunction<InflatedRows> made, int answer) {
        test(promise, "without a BOOK it is refused and changes nothing: " + call);
        InflatedRows x = bookless();
        is(call, made.applyAsLong(x), answer);
        is("status()", x.status(), 4);
        same("all that can be seen", Autopsy.of(x), Autopsy.of(bookless()));
    }

    private void withoutBook() {
        refusedBookless(9, "undo()", x -> x.undo(), STATE);
        refusedBookless(10, "word(0, 0, 1)", x -> x.word(0, 0, 1), BAD);
        refusedBookless(11, "length(0, 0, 1)", x -> x.length(0, 0, 1), BAD);
        refusedBookless(12, "become(0, 1)", x -> x.become(0, 1), BAD);
        refusedBookless(13, "root(0, 1)", x -> x.root(0, 1), STATE);
        refusedBookless(14, "begin(0, 1)", x -> x.begin(0, 1), STATE);
        refusedBookless(15, "inflate()", x -> x.inflate(), STATE);
        refusedBookless(16, "sort(0, 0)", x -> x.sort(0, 0), BAD);
        refusedBookless(17, "letter(0)", x -> x.letter(0), STATE);
        refusedBookless(18, "grown(0, 0)", x -> x.grown(0, 0), STATE);
        refusedBookless(19, "origin(0, 0, 0)", x -> x.origin(0, 0, 0), STATE);
        refusedBookless(20, "place(0, 0, 0)", x -> x.place(0, 0, 0), STATE);
        refusedBookless(21, "numbers(0, 0)", x -> x.numbers(0, 0), BAD);
        refusedBookless(22, "share(0, 0, 0)", x -> x.share(0, 0, 0), BAD);
        refusedBookless(23, "all(0, 0)", x -> x.all(0, 0), STATE);
        refusedBookless(24, "whole(2)", x -> x.whole(2), STATE);
        refusedBookless(25, "back(0, 1, 0)", x -> x.back(0, 1, 0), STATE);
        refusedBookless(26, "who(0, 0, 0, 0, 0, 1)", x -> x.who(0, 0, 0, 0, 0, 1), BAD);
        refusedBookless(27, "quiet()", x -> x.quiet(), STATE);
        refusedBookless(28, "sets(0, 0)", x -> x.sets(0, 0), STATE);
        refusedBookless(29, "lost(0, 0, 0, 0)", x -> x.lost(0, 0, 0, 0), BAD);
        refusedBookless(30, "drawn(0, 1, 0)", x -> x.drawn(0, 1, 0), STATE);
        refusedBookless(31, "image(0)", x -> x.image(0), STATE);
        refusedBookless(32, "restore(0)", x -> x.restore(0), STATE);
        refusedBookless(33, "kind(0)", x -> x.kind(0), BAD);
        refusedBookless(34, "as(0, 0)", x -> x.as(0, 0), BAD);
        refusedBookless(35, "ask(0, 0)", x -> x.ask(0, 0), BAD);
    }

    private static InflatedRows most() {
        InflatedRows x = Due.with("r3,9;p9,9,abcd;m9,9,dcba;l9,9,cdab;s9,9,d;xabcdabcd;");
        for (int i = 0; i < 3; i++) x.length(i, 1, 8);
        x.image(0);
        return x;
    }

    /** Four SORTS with all letters that there can be, each call at its dearest. */
    private void atTheirMost() {
        String due = Autopsy.of(most());
        test(26, "nothing changes by what is foretold of a BOOK with all letters that there can be");
        InflatedRows x = most();
        long sum = x.quiet() + x.sets(99, 0) + x.lost(3, 40, 9, 1) + x.drawn(30, 999999, 0) + x.grown(2, -1);
        sum += x.whole(4) + x.whole(5) + x.numbers(3, 31) + x.share(3, 30, 1) + x.all(29, 1);
        is("all were answered", sum == 0 ? 0 : 1, 1);
        same("all that can be seen", Autopsy.of(x), due);
    }
}
