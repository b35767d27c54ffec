/** The edges of promises 1 to 5, and of ROWS. */
public final class EdgesOfRowsTest extends Edges {
    /** ITEMS 0 to 3 are letters by this one, so that they can be seen as THE ROW. */
    private static final String FOUR = "r0,1;f1,0,a;f1,0,b;f1,0,c;f1,0,d;xa;";

    private EdgesOfRowsTest() {
        super(1, 5);
    }

    public static void main(String[] args) {
        EdgesOfRowsTest edges = new EdgesOfRowsTest();
        edges.promise1();
        edges.promise1Apart();
        edges.promise1Refusals();
        edges.promise2();
        edges.promise2Refusals();
        edges.promise3();
        edges.promise3Refusals();
        edges.promise4();
        edges.promise4Refusals();
        edges.promise4InTime();
        edges.promise5();
        edges.end();
    }

    /** The first n ITEMS of a ROW, seen by THE ROW of a BOOK of four SORTS. */
    private static String items(InflatedRows x, int row, int n) {
        int answer = x.begin(row, n);
        return answer < 0 ? "refused " + answer : Due.theRow(x);
    }

    private void promise1() {
        InflatedRows x = new InflatedRows();
        test(1, "there is no BOOK: no SORTS, no letters of THE ROW, no WORDS");
        is("count(1)", x.count(1), 0);
        is("count(2)", x.count(2), 0);
        is("count(3)", x.count(3), 0);
        test(1, "all ROWS are missing at first");
        is("count(0)", x.count(0), 0);
        for (int row = 0; row < 8; row++) is("drop(" + row + ")", x.drop(row), NULL);
        test(1, "no ACT can be undone, no IMAGE was kept");
        is("count(4)", x.count(4), 0);
        is("undo()", x.undo(), STATE);
        is("restore(0)", x.restore(0), STATE);
        is("restore(1)", x.restore(1), STATE);
        InflatedRows y = new InflatedRows();
        test(1, "the tape is empty, THE TRACE too; no FAULT, no FINDING");
        is("count(5)", y.count(5), 0);
        is("trace(0)", y.trace(0), NONE);
        is("fault()", y.fault(), 0);
        is("status()", y.status(), 0);
    }

    private void promise1Apart() {
        InflatedRows x = Due.with(FOUR);
        InflatedRows y = new InflatedRows();
        x.row(0, 0, 3);
        x.feed('r');
        x.ask(0, 0);
        x.as(0, 1);
        x.image(0);
        test(1, "a new object has nothing of another one, and what is done to it leaves that");
        for (int what = 0; what <= 5; what++) is("count(" + what + ")", y.count(what), 0);
        is("trace(0)", y.trace(0), NONE);
        is("status()", y.status(), 0);
        is("restore(0)", y.restore(0), STATE);
        Due.book(y, "r3,9;l9,9,aa;xaaa;");
        y.row(0, 2, 40);
        is("SORTS", x.count(1), 4);
        is("THE ROW", x.count(2), 1);
        is("drop(0)", x.drop(0), 3);
    }

    private void promise1Refusals() {
        InflatedRows x = new InflatedRows();
        x.row(0, 0, 1);
        test(1, "no BOOK is STATE, where that is told");
        is("root", x.root(0, 1), STATE);
        is("begin", x.begin(0, 1), STATE);
        is("inflate", x.inflate(), STATE);
        is("letter", x.letter(0), STATE);
        is("grown", x.grown(0, -1), STATE);
        is("origin", x.origin(0, 0, 0), STATE);
        is("place", x.place(0, 0, 0), STATE);
        is("all", x.all(0, 0), STATE);
        for (int what = 0; what <= 6; what++) is("whole", x.whole(what), STATE);
        is("back", x.back(0, 1, -1), STATE);
        is("quiet", x.quiet(), STATE);
        is("sets", x.sets(0, 0), STATE);
        is("drawn", x.drawn(0, 1, 0), STATE);
        is("image", x.image(0), STATE);
        test(1, "no BOOK is BAD, where a SORT is named: there is no such thing");
        is("word", x.word(0, 0, 1), BAD);
        is("length", x.length(0, 0, 0), BAD);
        is("become", x.become(0, 1), BAD);
        is("sort", x.sort(0, 0), BAD);
        is("numbers", x.numbers(0, 0), BAD);
        is("share", x.share(0, 0, 0), BAD);
        is("who", x.who(0, 0, 0, 0, 0, 1), BAD);
        is("lost", x.lost(0, 0, 0, 0), BAD);
        is("kind", x.kind(0), BAD);
        is("as", x.as(0, 0), BAD);
        is("ask", x.ask(0, 0), BAD);
    }

    private void promise2() {
        InflatedRows x = Due.with(FOUR);
        test(2, "ROWS 0 to 7, the first and the last");
        is("row(0, 0, 1)", x.row(0, 0, 1), 1);
        is("row(7, 0, 1)", x.row(7, 0, 1), 1);
        is("count(0)", x.count(0), 2);
        test(2, "LANES 0 bytes, 1 shorts, 2 ints");
        for (int lane = 0; lane <= 2; lane++) is("row(1, " + lane + ", 2)", x.row(1, lane, 2), 2);
        x.row(1, 0, 1);
        is("128 as a byte", x.set(1, 0, 128), -128);
        x.row(1, 1, 1);
        is("32768 as a short", x.set(1, 0, 32768), -32768);
        x.row(1, 2, 1);
        is("32768 as an int", x.set(1, 0, 32768), 32768);
        test(2, "0 ITEMS are enough: the ROW is there");
        is("row(2, 0, 0)", x.row(2, 0, 0), 0);
        is("set: no such place, but it is not missing", x.set(2, 0, 0), PLACE);
        is("drop(2)", x.drop(2), 0);
        test(2, "40 ITEMS are not too many");
        is("row(3, 2, 40)", x.row(3, 2, 40), 40);
        is("the last", x.set(3, 39, 7), 7);
        is("none behind it", x.set(3, 40, 7), PLACE);
        promise2InPlace(x);
    }

    private void promise2InPlace(InflatedRows x) {
        test(2, "ITEMS are 0 at first, all of them");
        x.row(4, 1, 40);
        x.row(5, 1, 8);
        for (int from = 0; from < 40; from += 8) {
            x.copy(4, from, 5, 0, 8);
            same("ITEMS from " + from, items(x, 5, 8), "aaaaaaaa");
        }
        test(2, "in place of what is there: ITEMS are 0 again, also of the same LANE");
        tell(x, 6, "bcdbcdbc");
        x.row(6, 0, 8);
        same("the same LANE", items(x, 6, 8), "aaaaaaaa");
        tell(x, 6, "bcdbcdbc");
        x.row(6, 2, 8);
        same("another LANE", items(x, 6, 8), "aaaaaaaa");
        test(2, "in place of what is there: it is as long as the new one, and counts once");
        int there = x.count(0);
        is("row(6, 0, 3)", x.row(6, 0, 3), 3);
        is("place 3", x.set(6, 3, 0), PLACE);
        is("count(0)", x.count(0), there);
        is("drop(6)", x.drop(6), 3);
        test(2, "other ROWS stay as they are");
        tell(x, 0, "bcd");
        tell(x, 2, "dcb");
        x.row(1, 0, 40);
        same("the one ahead", items(x, 0, 3), "bcd");
        same("the one behind", items(x, 2, 3), "dcb");
    }

    private void promise2Refusals() {
        InflatedRows x = new InflatedRows();
        test(2, "BAD: there is no such ROW");
        for (int row : new int[] {-1, 8, LEAST, MOST}) is("row(" + row + ", 0, 1)", x.row(row, 0, 1), BAD);
        test(2, "BAD: there is no such LANE");
        for (int lane : new int[] {-1, 3, LEAST, MOST}) is("row(0, " + lane + ", 1)", x.row(0, lane, 1), BAD);
        test(2, "BAD: n above 40");
        is("row(0, 0, 41)", x.row(0, 0, 41), BAD);
        is("row(0, 0, the most)", x.row(0, 0, MOST), BAD);
        test(2, "SIZE: fewer than none");
        is("row(0, 0, -1)", x.row(0, 0, -1), SIZE);
        is("row(0, 0, the least)", x.row(0, 0, LEAST), SIZE);
        is("status()", x.status(), 4);
        test(2, "BAD is ahead of SIZE");
        is("ROW 8", x.row(8, 0, -1), BAD);
        is("LANE 3", x.row(0, 3, -1), BAD);
        test(2, "a ROW that was refused is missing yet");
        is("count(0)", x.count(0), 0);
        is("drop(0)", x.drop(0), NULL);
    }

    private void promise3() {
        InflatedRows x = Due.with(FOUR);
        for (int lane = 0; lane <= 2; lane++) x.row(lane, lane, 2);
        test(3, "the lowest 8 bits, with their sign, of a LANE of bytes");
        int[] bytes = {127, 127, 128, -128, -128, -128, -129, 127, 255, -1, 256, 0, MOST, -1, LEAST, 0};
        for (int i = 0; i < bytes.length; i += 2) is("set(0, 1, " + bytes[i] + ")", x.set(0, 1, bytes[i]), bytes[i + 1]);
        test(3, "the lowest 16 bits, with their sign, of a LANE of shorts");
        int[] shorts = {32767, 32767, 32768, -32768, -32768, -32768, -32769, 32767, 65535, -1, 65536, 0, MOST, -1, LEAST, 0};
        for (int i = 0; i < shorts.length; i += 2) {
            is("set(1, 1, " + shorts[i] + ")", x.set(1, 1, shorts[i]), shorts[i + 1]);
        }
        test(3, "all bits of a LANE of ints");
        for (int v : new int[] {LEAST, -1, 0, 65536, MOST}) is("set(2, 1, " + v + ")", x.set(2, 1, v), v);
        test(3, "the ITEM is what was answered, not what was told");
        x.set(0, 0, 257);
        x.set(0, 1, 514);
        same("of bytes", items(x, 0, 2), "bc");
        x.set(1, 0, 65537);
        x.set(1, 1, 65538);
        same("of shorts", items(x, 1, 2), "bc");
        x.set(2, 0, 65536);
        x.set(2, 1, 1);
        is("of ints: 65536 is no letter", x.begin(2, 2), PLACE);
        test(3, "the first and the last ITEM; the others stay");
        tell(x, 3, "bcdb");
        is("set(3, 0, 3)", x.set(3, 0, 3), 3);
        is("set(3, 3, 2)", x.set(3, 3, 2), 2);
        same("ROW 3", items(x, 3, 4), "dcdc");
    }

    private void promise3Refusals() {
        InflatedRows x = new InflatedRows();
        x.row(0, 0, 2);
        x.row(1, 0, 0);
        test(3, "BAD: there is no such ROW");
        for (int row : new int[] {-1, 8, LEAST, MOST}) is("set(" + row + ", 0, 1)", x.set(row, 0, 1), BAD);
        test(3, "NULL: the ROW is missing; it is ahead of PLACE");
        is("set(7, 0, 1)", x.set(7, 0, 1), NULL);
        is("set(7, -1, 1)", x.set(7, -1, 1), NULL);
        is("status()", x.status(), 1);
        test(3, "PLACE: below 0, and behind the last one");
        for (int i : new int[] {-1, 2, 40, LEAST, MOST}) is("set(0, " + i + ", 1)", x.set(0, i, 1), PLACE);
        is("status()", x.status(), 2);
        test(3, "PLACE: a ROW of no ITEMS has none");
        is("set(1, 0, 1)", x.set(1, 0, 1), PLACE);
    }

    private void promise4() {
        InflatedRows x = Due.with(FOUR);
        test(4, "as they were ahead: onto the same ROW, a step to the right");
        tell(x, 0, "abcdab");
        is("copy(0, 0, 0, 1, 5)", x.copy(0, 0, 0, 1, 5), 5);
        same("ROW 0", items(x, 0, 6), "aabcda");
        test(4, "as they were ahead: onto the same ROW, a step to the left");
        tell(x, 0, "abcdab");
        is("copy(0, 1, 0, 0, 5)", x.copy(0, 1, 0, 0, 5), 5);
        same("ROW 0", items(x, 0, 6), "bcdabb");
        test(4, "onto the same places nothing becomes another");
        is("copy(0, 0, 0, 0, 6)", x.copy(0, 0, 0, 0, 6), 6);
        same("ROW 0", items(x, 0, 6), "bcdabb");
        test(4, "of a to b, and no more than n: what lies beside stays");
        tell(x, 1, "bcd");
        tell(x, 2, "aaaa");
        is("copy(1, 1, 2, 1, 2)", x.copy(1, 1, 2, 1, 2), 2);
        same("b", items(x, 2, 4), "acda");
        same("a", items(x, 1, 3), "bcd");
        test(4, "up to both ends, all 40");
        x.row(3, 2, 40);
        x.row(4, 2, 40);
        x.set(3, 39, 3);
        is("copy(3, 0, 4, 0, 40)", x.copy(3, 0, 4, 0, 40), 40);
        is("the last comes back", x.copy(4, 39, 3, 0, 1), 1);
        same("the last", items(x, 3, 1), "d");
        test(4, "none: also at an end, also of ROWS of none");
        is("copy(1, 3, 2, 4, 0)", x.copy(1, 3, 2, 4, 0), 0);
        x.row(5, 0, 0);
        is("copy(5, 0, 5, 0, 0)", x.copy(5, 0, 5, 0, 0), 0);
        test(4, "ITEMS of ints and shorts come as they are");
        x.row(6, 1, 2);
        x.set(6, 0, -300);
        x.copy(6, 0, 6, 1, 1);
        x.row(7, 1, 1);
        is("shorts", x.copy(6, 1, 7, 0, 1), 1);
        is("-300 is no letter", x.begin(7, 1), PLACE);
    }

    private void promise4Refusals() {
        InflatedRows x = new InflatedRows();
        x.row(0, 0, 5);
        x.row(1, 0, 3);
        test(4, "BAD: there is no such ROW, a or b");
        for (int row : new int[] {-1, 8, LEAST, MOST}) {
            is("a is " + row, x.copy(row, 0, 1, 0, 1), BAD);
            is("b is " + row, x.copy(0, 0, row, 0, 1), BAD);
        }
        test(4, "NULL: a or b is missing");
        is("a", x.copy(3, 0, 1, 0, 1), NULL);
        is("b", x.copy(0, 0, 3, 0, 1), NULL);
        is("both", x.copy(3, 0, 3, 0, 0), NULL);
        test(4, "STORE: ROWS of two LANES, also for none");
        int[][] lanes = {{0, 1}, {0, 2}, {1, 0}, {1, 2}, {2, 0}, {2, 1}};
        for (int[] two : lanes) {
            x.row(4, two[0], 1);
            x.row(5, two[1], 1);
            is("LANES " + two[0] + ", " + two[1], x.copy(4, 0, 5, 0, 1), STORE);
            is("LANES " + two[0] + ", " + two[1] + ", none", x.copy(4, 0, 5, 0, 0), STORE);
        }
        test(4, "PLACE: i, j, n below 0");
        for (int v : new int[] {-1, LEAST}) {
            is("i", x.copy(0, v, 1, 0, 1), PLACE);
            is("j", x.copy(0, 0, 1, v, 1), PLACE);
            is("n", x.copy(0, 1, 1, 1, v), PLACE);
            is("n, onto itself", x.copy(0, 1, 0, 1, v), PLACE);
        }
        test(4, "PLACE: beyond an end, by one");
        is("of a", x.copy(1, 1, 0, 0, 3), PLACE);
        is("of b", x.copy(0, 0, 1, 1, 3), PLACE);
        is("of a, none", x.copy(1, 4, 0, 0, 0), PLACE);
        is("of b, none", x.copy(0, 0, 1, 4, 0), PLACE);
        is("n, of b alone", x.copy(0, 0, 1, 0, 4), PLACE);
        is("n, of a alone", x.copy(1, 0, 0, 0, 4), PLACE);
        test(4, "PLACE: sums that would wrap around");
        is("i and n", x.copy(0, MOST, 1, 0, MOST), PLACE);
        is("j and n", x.copy(0, 0, 1, MOST, MOST), PLACE);
        is("i and n, a little", x.copy(0, 1, 1, 0, MOST), PLACE);
        is("i alone", x.copy(0, MOST, 1, 0, 1), PLACE);
        is("j alone", x.copy(0, 0, 1, MOST, 1), PLACE);
    }

    private void promise4InTime() {
        InflatedRows x = new InflatedRows();
        x.row(0, 0, 5);
        x.row(1, 1, 3);
        test(4, "of several the first: BAD, NULL, STORE, PLACE");
        is("BAD ahead of NULL", x.copy(3, 0, 8, 0, 1), BAD);
        is("BAD ahead of PLACE", x.copy(0, -1, -1, 0, 1), BAD);
        is("NULL ahead of PLACE, a", x.copy(3, -1, 0, 0, 1), NULL);
        is("NULL ahead of PLACE, b", x.copy(0, -1, 3, 0, 1), NULL);
        is("STORE ahead of PLACE, i", x.copy(0, -1, 1, 0, 1), STORE);
        is("STORE ahead of PLACE, j", x.copy(0, 0, 1, 4, 1), STORE);
        is("STORE ahead of PLACE, n", x.copy(0, 0, 1, 0, -1), STORE);
        is("status()", x.status(), 5);
    }

    private void promise5() {
        InflatedRows x = Due.with(FOUR);
        test(5, "how many ITEMS it had, 0 to 40, of ROWS 0 to 7");
        x.row(0, 1, 0);
        x.row(7, 1, 40);
        is("drop(0)", x.drop(0), 0);
        is("drop(7)", x.drop(7), 40);
        test(5, "it is missing from now on, for each call");
        x.row(3, 0, 4);
        x.row(4, 0, 4);
        is("drop(3)", x.drop(3), 4);
        is("set", x.set(3, 0, 0), NULL);
        is("copy from it", x.copy(3, 0, 4, 0, 1), NULL);
        is("copy to it", x.copy(4, 0, 3, 0, 1), NULL);
        is("word", x.word(0, 3, 1), NULL);
        is("begin", x.begin(3, 1), NULL);
        is("back", x.back(3, 1, -1), NULL);
        is("who", x.who(0, 0, 0, 0, 3, 1), NULL);
        is("drop", x.drop(3), NULL);
        is("count(0): the other one", x.count(0), 1);
        test(5, "it can be made again, with ITEMS that are 0");
        tell(x, 3, "bcd");
        x.drop(3);
        x.row(3, 0, 3);
        same("ROW 3", items(x, 3, 3), "aaa");
        test(5, "BAD: there is no such ROW");
        for (int row : new int[] {-1, 8, LEAST, MOST}) is("drop(" + row + ")", x.drop(row), BAD);
        test(5, "NULL: it is missing");
        is("drop(6)", x.drop(6), NULL);
        is("status()", x.status(), 1);
    }
}
