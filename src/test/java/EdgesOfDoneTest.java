/** The edges of promises 10 to 17, and of LENGTHS and IMAGES of SORTS. */
public final class EdgesOfDoneTest extends Edges {
    private static final String FOUR = "r1,2;p1,2,ab;m3,4,abc;l5,6,c;f7,8,ad;xabcd;";
    private static final String ONE = "r1,2;p1,2,a;xa;";

    private EdgesOfDoneTest() {
        super(10, 17);
    }

    public static void main(String[] args) {
        EdgesOfDoneTest edges = new EdgesOfDoneTest();
        edges.promise10();
        edges.promise10Refusals();
        edges.promise10Letters();
        edges.promise11();
        edges.promise11Refusals();
        edges.promise12();
        edges.promise13();
        edges.promise13Refusals();
        edges.promise14();
        edges.promise14Refusals();
        edges.promise14Letters();
        edges.promise15();
        edges.promise15Full();
        edges.promise16();
        edges.promise16Images();
        edges.promise16Refusals();
        edges.promise17();
        edges.end();
    }

    private void promise10() {
        InflatedRows x = Due.with(FOUR);
        tell(x, 0, "dcbaa");
        test(10, "n ITEMS, 1 to 4, from 0 on; how many letters it had, 1 to 4");
        int had = 2;
        for (int n = 1; n <= 4; n++) {
            is("word(0, 0, " + n + ")", x.word(0, 0, n), had);
            same("WORD", wordOf(x, 0), "dcba".substring(0, n));
            had = n;
        }
        is("shorter again", x.word(0, 0, 1), 4);
        same("WORD", wordOf(x, 0), "d");
        test(10, "the first SORT and the last; others stay");
        x.word(3, 0, 3);
        same("SORT 3", wordOf(x, 3), "dcb");
        same("SORT 2", wordOf(x, 2), "c");
        same("SORT 1", wordOf(x, 1), "abc");
        test(10, "it is an ACT, also if it is that");
        int acts = x.count(4);
        is("the same", x.word(3, 0, 3), 3);
        is("count(4)", x.count(4), acts + 1);
        test(10, "of ROWS 0 to 7, of each LANE");
        for (int lane = 0; lane <= 2; lane++) {
            x.row(7, lane, 1);
            x.set(7, 0, lane);
            x.word(2, 7, 1);
            is("letter", x.sort(2, 10), lane);
        }
        test(10, "a later change of the ROW leaves the WORD");
        x.set(7, 0, 0);
        is("letter", x.sort(2, 10), 2);
    }

    private void promise10Refusals() {
        InflatedRows x = Due.with(FOUR);
        tell(x, 0, "ab");
        x.row(1, 0, 0);
        test(10, "BAD: there is no such SORT");
        for (int sort : new int[] {-1, 4, LEAST, MOST}) is("SORT " + sort, x.word(sort, 0, 1), BAD);
        is("SORT 1 of one", Due.with(ONE).word(1, 0, 1), BAD);
        test(10, "BAD: there is no such ROW");
        for (int row : new int[] {-1, 8, LEAST, MOST}) is("ROW " + row, x.word(0, row, 1), BAD);
        test(10, "BAD: n is 1 to 4");
        for (int n : new int[] {0, 5, -1, LEAST, MOST}) is("n " + n, x.word(0, 0, n), BAD);
        test(10, "NULL: the ROW is missing");
        is("ROW 7", x.word(0, 7, 1), NULL);
        is("status()", x.status(), 1);
        test(10, "PLACE: beyond the end of the ROW, by one");
        is("n 2", x.word(0, 0, 2), 2);
        is("n 3", x.word(0, 0, 3), PLACE);
        is("a ROW of none", x.word(0, 1, 1), PLACE);
        is("status()", x.status(), 2);
        test(10, "of several the first: BAD, NULL");
        is("SORT and NULL", x.word(4, 7, 1), BAD);
        is("n and NULL", x.word(0, 7, 5), BAD);
        is("n and PLACE", x.word(0, 0, 0), BAD);
        is("NULL and PLACE", x.word(0, 7, 4), NULL);
    }

    private void promise10Letters() {
        InflatedRows x = Due.with(FOUR);
        x.row(0, 2, 4);
        test(10, "PLACE: an ITEM that is no letter, too, at each place");
        for (int i = 0; i < 4; i++) {
            for (int v : new int[] {-1, 4, 256, LEAST, MOST}) {
                x.set(0, i, v);
                is("ITEM " + i + " is " + v, x.word(0, 0, 4), PLACE);
            }
            x.set(0, i, 3);
            is("ITEM " + i + " is 3", x.word(0, 0, i + 1), i == 0 ? 2 : i);
        }
        test(10, "letters go up to how many SORTS there are less 1");
        for (int sorts = 1; sorts <= 4; sorts++) {
            InflatedRows y = Due.with("r1,2;" + "p1,2,a;".repeat(sorts) + "xa;");
            y.row(0, 0, 1);
            y.set(0, 0, sorts - 1);
            is(sorts + " SORTS, the last", y.word(0, 0, 1), 1);
            y.set(0, 0, sorts);
            is(sorts + " SORTS, one more", y.word(0, 0, 1), PLACE);
        }
        test(10, "an ITEM behind the n that count may be anything");
        Due.row(x, 1, 1, 2, 99, -5);
        is("word(1, 1, 2)", x.word(1, 1, 2), 3);
        same("WORD", wordOf(x, 1), "bc");
        is("word(1, 1, 3)", x.word(1, 1, 3), PLACE);
        same("WORD", wordOf(x, 1), "bc");
    }

    private void promise11() {
        InflatedRows x = Due.with(FOUR);
        test(11, "P and Q are 0 to 9; what it was");
        is("P of 0", x.length(0, 0, 0), 1);
        is("P of 0", x.length(0, 0, 9), 0);
        is("P", x.sort(0, 0), 9);
        is("Q of 3", x.length(3, 1, 9), 8);
        is("Q of 3", x.length(3, 1, 0), 9);
        is("Q", x.sort(3, 1), 0);
        test(11, "only that one becomes another");
        is("Q of 0", x.sort(0, 1), 2);
        is("P of 3", x.sort(3, 0), 7);
        is("P of 1", x.sort(1, 0), 3);
        is("Q of 2", x.sort(2, 1), 6);
        test(11, "of a long one it is P, Q as told, not twice that");
        is("P", x.length(2, 0, 4), 5);
        is("P", x.sort(2, 0), 4);
        is("Q", x.length(2, 1, 4), 6);
        test(11, "an ACT also if it is that");
        is("count(4)", x.count(4), 6);
        is("P", x.length(2, 0, 4), 4);
        is("count(4)", x.count(4), 7);
        is("Q", x.length(2, 1, 4), 4);
        is("count(4)", x.count(4), 8);
    }

    private void promise11Refusals() {
        InflatedRows x = Due.with(FOUR);
        test(11, "BAD: there is no such SORT");
        for (int sort : new int[] {-1, 4, LEAST, MOST}) is("SORT " + sort, x.length(sort, 0, 1), BAD);
        is("SORT 1 of one", Due.with(ONE).length(1, 0, 1), BAD);
        test(11, "BAD: which is 0 or 1");
        for (int which : new int[] {-1, 2, LEAST, MOST}) is("which " + which, x.length(0, which, 1), BAD);
        test(11, "BAD: v is 0 to 9");
        for (int v : new int[] {-1, 10, LEAST, MOST}) {
            is("P " + v, x.length(0, 0, v), BAD);
            is("Q " + v, x.length(0, 1, v), BAD);
        }
    }

    private void promise12() {
        InflatedRows x = Due.with(FOUR);
        test(12, "KINDS 1 to 5, from each to each; what it was");
        int was = 1;
        for (int kind : new int[] {5, 1, 2, 3, 4, 5, 4, 3, 2, 1}) {
            is("become(0, " + kind + ")", x.become(0, kind), was);
            is("kind(0)", x.kind(0), kind);
            was = kind;
        }
        is("ACTS", x.count(4), 10);
        test(12, "only the KIND becomes another");
        is("the last SORT", x.become(3, 1), 4);
        is("P", x.sort(3, 0), 7);
        is("Q", x.sort(3, 1), 8);
        same("WORD", wordOf(x, 3), "ad");
        is("kind(2)", x.kind(2), 3);
        test(12, "STATE: it is that; it is no ACT");
        int acts = x.count(4);
        for (int kind = 1; kind <= 5; kind++) {
            InflatedRows y = Due.with("r1,2;" + "pmlfs".charAt(kind - 1) + "1,2,a;xa;");
            is("become(0, " + kind + ")", y.become(0, kind), STATE);
            is("count(4)", y.count(4), 0);
        }
        is("as it became", x.become(3, 1), STATE);
        is("count(4)", x.count(4), acts);
        test(12, "BAD: there is no such SORT");
        for (int sort : new int[] {-1, 4, LEAST, MOST}) is("SORT " + sort, x.become(sort, 5), BAD);
        is("SORT 1 of one", Due.with(ONE).become(1, 5), BAD);
        test(12, "BAD: KINDS are 1 to 5");
        for (int kind : new int[] {0, 6, -1, LEAST, MOST}) is("KIND " + kind, x.become(0, kind), BAD);
    }

    private void promise13() {
        InflatedRows x = Due.with(FOUR);
        test(13, "M is 0 to 3, K is 1 to 9; what it was");
        is("M 0", x.root(0, 0), 1);
        is("M 3", x.root(0, 3), 0);
        is("M", x.whole(0), 3);
        is("K", x.whole(1), 2);
        is("K 1", x.root(1, 1), 2);
        is("K 9", x.root(1, 9), 1);
        is("K", x.whole(1), 9);
        is("M", x.whole(0), 3);
        test(13, "an ACT also if it is that");
        is("count(4)", x.count(4), 4);
        is("M 3", x.root(0, 3), 3);
        is("count(4)", x.count(4), 5);
        is("K 9", x.root(1, 9), 9);
        is("count(4)", x.count(4), 6);
    }

    private void promise13Refusals() {
        InflatedRows x = Due.with(FOUR);
        test(13, "BAD: which is 0 or 1");
        for (int which : new int[] {-1, 2, LEAST, MOST}) is("which " + which, x.root(which, 1), BAD);
        test(13, "BAD: M is 0 to 3");
        for (int v : new int[] {-1, 4, 9, LEAST, MOST}) is("M " + v, x.root(0, v), BAD);
        test(13, "BAD: K is 1 to 9");
        for (int v : new int[] {0, 10, -1, LEAST, MOST}) is("K " + v, x.root(1, v), BAD);
        test(13, "STATE, no BOOK, is ahead of BAD");
        InflatedRows y = new InflatedRows();
        is("M", y.root(0, 0), STATE);
        is("which 2", y.root(2, 1), STATE);
        is("M 4", y.root(0, 4), STATE);
        is("K 0", y.root(1, 0), STATE);
    }

    private void promise14() {
        InflatedRows x = Due.with(FOUR);
        tell(x, 7, "ddccbbaab");
        test(14, "n ITEMS, 1 to 8, from 0 on; how many letters it had, 1 to 8");
        int had = 4;
        for (int n = 1; n <= 8; n++) {
            is("begin(7, " + n + ")", x.begin(7, n), had);
            same("THE ROW", Due.theRow(x), "ddccbbaa".substring(0, n));
            had = n;
        }
        is("shorter again", x.begin(7, 1), 8);
        same("THE ROW", Due.theRow(x), "d");
        test(14, "an ACT, also if THE ROW is that");
        is("count(4)", x.count(4), 9);
        is("begin(7, 1)", x.begin(7, 1), 1);
        is("count(4)", x.count(4), 10);
        test(14, "of ROW 0, of each LANE; a later change of the ROW leaves THE ROW");
        for (int lane = 0; lane <= 2; lane++) {
            x.row(0, lane, 1);
            x.set(0, 0, lane);
            x.begin(0, 1);
            x.set(0, 0, 3);
            is("letter", x.letter(0), lane);
        }
    }

    private void promise14Refusals() {
        InflatedRows x = Due.with(FOUR);
        tell(x, 0, "ab");
        x.row(1, 0, 0);
        test(14, "BAD: there is no such ROW");
        for (int row : new int[] {-1, 8, LEAST, MOST}) is("ROW " + row, x.begin(row, 1), BAD);
        test(14, "BAD: n is 1 to 8");
        for (int n : new int[] {0, 9, -1, LEAST, MOST}) is("n " + n, x.begin(0, n), BAD);
        test(14, "STATE, no BOOK, is ahead of BAD and of what is found");
        InflatedRows y = new InflatedRows();
        y.row(0, 0, 1);
        is("all as told", y.begin(0, 1), STATE);
        is("ROW 8", y.begin(8, 1), STATE);
        is("n 9", y.begin(0, 9), STATE);
        is("missing", y.begin(1, 1), STATE);
        is("no such place", y.begin(0, 2), STATE);
        test(14, "NULL: the ROW is missing; behind BAD");
        is("ROW 7", x.begin(7, 1), NULL);
        is("status()", x.status(), 1);
        is("n 9", x.begin(7, 9), BAD);
        test(14, "PLACE: beyond the end of the ROW, by one");
        is("n 2", x.begin(0, 2), 4);
        is("n 3", x.begin(0, 3), PLACE);
        is("a ROW of none", x.begin(1, 1), PLACE);
        is("status()", x.status(), 2);
    }

    private void promise14Letters() {
        InflatedRows x = Due.with(FOUR);
        x.row(0, 2, 8);
        test(14, "PLACE: an ITEM that is no letter, too, at each place");
        for (int i = 0; i < 8; i++) {
            for (int v : new int[] {-1, 4, LEAST, MOST}) {
                x.set(0, i, v);
                is("ITEM " + i + " is " + v, x.begin(0, 8), PLACE);
            }
            x.set(0, i, 3);
            is("ITEM " + i + " is 3", x.begin(0, i + 1), i == 0 ? 4 : i);
        }
        test(14, "letters go up to how many SORTS there are less 1");
        for (int sorts = 1; sorts <= 4; sorts++) {
            InflatedRows y = Due.with("r1,2;" + "p1,2,a;".repeat(sorts) + "xa;");
            y.row(0, 0, 1);
            y.set(0, 0, sorts - 1);
            is(sorts + " SORTS, the last", y.begin(0, 1), 1);
            y.set(0, 0, sorts);
            is(sorts + " SORTS, one more", y.begin(0, 1), PLACE);
        }
        test(14, "an ITEM behind the n that count may be anything");
        Due.row(x, 1, 1, 2, 99);
        is("begin(1, 2)", x.begin(1, 2), 8);
        same("THE ROW", Due.theRow(x), "bc");
    }

    private void promise15() {
        test(15, "THE ROW becomes its IMAGES, one behind the other, of each KIND; how many letters it has");
        InflatedRows x = Due.with("r1,1;p1,1,abc;m1,1,abc;l1,1,bc;xab;");
        is("plain and mirrored", x.inflate(), 6);
        same("THE ROW", Due.theRow(x), "abccba");
        InflatedRows y = Due.with("r1,1;l1,1,bc;s1,1,a;f1,1,abab;xabc;");
        is("long, split and fixed", y.inflate(), 5);
        same("THE ROW", Due.theRow(y), "bcbbc");
        test(15, "STATE: no BOOK");
        is("inflate()", new InflatedRows().inflate(), STATE);
        test(15, "it is an ACT, also where nothing becomes another");
        InflatedRows z = Due.with("r1,1;f1,1,a;xa;");
        is("inflate()", z.inflate(), 1);
        is("count(4)", z.count(4), 1);
    }

    private void promise15Full() {
        test(15, "8 letters are not too many");
        InflatedRows x = Due.with("r1,1;s1,1,a;f1,1,b;xaaaa;");
        is("inflate()", x.inflate(), 8);
        same("THE ROW", Due.theRow(x), "aaaaaaaa");
        InflatedRows y = Due.with("r1,1;f1,1,a;xaaaaaaaa;");
        is("8 that stay 8", y.inflate(), 8);
        test(15, "FULL: more than 8; THE ROW stays, it is no ACT");
        InflatedRows z = Due.with("r1,1;s1,1,a;f1,1,b;xbaaaa;");
        is("9 letters", z.inflate(), FULL);
        same("THE ROW", Due.theRow(z), "baaaa");
        is("count(4)", z.count(4), 0);
        InflatedRows w = Due.with("r1,1;p1,1,aaaa;xaaaaaaaa;");
        is("32 letters", w.inflate(), FULL);
        same("THE ROW", Due.theRow(w), "aaaaaaaa");
    }

    private void promise16() {
        InflatedRows x = Due.with("r1,1;p0,9,abcd;m9,0,abc;s5,6,dcba;f7,8,a;xabcd;");
        test(16, "0 P, 1 Q, 2 letters of its WORD, 3 of its IMAGE, of the first SORT to the last");
        int[][] wants = {{0, 9, 4, 4}, {9, 0, 3, 3}, {5, 6, 4, 2}, {7, 8, 1, 1}};
        for (int sort = 0; sort < 4; sort++) {
            for (int what = 0; what < 4; what++) is("sort(" + sort + ", " + what + ")", x.sort(sort, what), wants[sort][what]);
        }
        test(16, "10 and i: letter i of its WORD, i 0 to 3");
        for (int i = 0; i < 4; i++) {
            is("of the first", x.sort(0, 10 + i), i);
            is("of a split one", x.sort(2, 10 + i), 3 - i);
        }
        test(16, "20 and i: letter i of its IMAGE, i 0 to 3");
        for (int i = 0; i < 4; i++) is("of the first", x.sort(0, 20 + i), i);
        for (int i = 0; i < 3; i++) is("of a mirrored one", x.sort(1, 20 + i), 2 - i);
        test(16, "NONE: not so many letters of its WORD");
        is("the fourth of three", x.sort(1, 13), NONE);
        for (int i = 1; i < 4; i++) is("behind one", x.sort(3, 10 + i), NONE);
        test(16, "NONE: not so many letters of its IMAGE");
        is("the fourth of three", x.sort(1, 23), NONE);
        is("the third of two", x.sort(2, 22), NONE);
        is("the fourth of two", x.sort(2, 23), NONE);
        for (int i = 1; i < 4; i++) is("behind one", x.sort(3, 20 + i), NONE);
    }

    private void promise16Images() {
        test(16, "IMAGE of a plain one, a long one: its WORD");
        same("plain", imageOf(Due.with("r1,1;p1,1,aabb;p1,1,a;xa;"), 0), "aabb");
        same("long", imageOf(Due.with("r1,1;l1,1,aabb;p1,1,a;xa;"), 0), "aabb");
        test(16, "IMAGE of a mirrored one: its WORD, the last letter first, of 1 to 4 letters");
        for (String word : new String[] {"b", "ab", "aab", "aaab", "abbb"}) {
            InflatedRows x = Due.with("r1,1;m1,1," + word + ";p1,1,a;xa;");
            same(word, imageOf(x, 0), new StringBuilder(word).reverse().toString());
            same(word, wordOf(x, 0), word);
        }
        test(16, "IMAGE of a fixed one: itself, whatever its WORD is");
        same("the first", imageOf(Due.with("r1,1;f1,1,bbbb;p1,1,a;xa;"), 0), "a");
        same("the second", imageOf(Due.with("r1,1;p1,1,a;f1,1,a;xa;"), 1), "b");
        test(16, "IMAGE of a split one: itself twice, whatever its WORD is");
        same("the first", imageOf(Due.with("r1,1;s1,1,bbbb;p1,1,a;xa;"), 0), "aa");
        same("the second", imageOf(Due.with("r1,1;p1,1,a;s1,1,a;xa;"), 1), "bb");
        test(16, "P and Q of a long one are as told, not twice that");
        InflatedRows y = Due.with("r1,1;l4,9,a;xa;");
        is("P", y.sort(0, 0), 4);
        is("Q", y.sort(0, 1), 9);
    }

    private void promise16Refusals() {
        InflatedRows x = Due.with(FOUR);
        test(16, "BAD: there is no such SORT");
        for (int sort : new int[] {-1, 4, LEAST, MOST}) is("sort(" + sort + ", 0)", x.sort(sort, 0), BAD);
        is("SORT 1 of one", Due.with(ONE).sort(1, 0), BAD);
        test(16, "BAD: what is 0 to 3, 10 to 13, 20 to 23");
        for (int what : new int[] {-1, 4, 9, 14, 19, 24, 30, LEAST, MOST}) {
            is("sort(0, " + what + ")", x.sort(0, what), BAD);
        }
    }

    private void promise17() {
        InflatedRows x = Due.with("r1,1;p1,1,a;p1,1,a;p1,1,a;p1,1,a;xabcddcba;");
        test(17, "letter i of THE ROW, 0 to 7");
        for (int i = 0; i < 8; i++) is("letter(" + i + ")", x.letter(i), i < 4 ? i : 7 - i);
        test(17, "NONE: not so many");
        is("letter(8)", x.letter(8), NONE);
        is("letter(the most)", x.letter(MOST), NONE);
        x.row(0, 0, 1);
        x.begin(0, 1);
        is("what a longer one had", x.letter(1), NONE);
        test(17, "BAD: i below 0");
        is("letter(-1)", x.letter(-1), BAD);
        is("letter(the least)", x.letter(LEAST), BAD);
        test(17, "STATE, no BOOK, is ahead of BAD");
        is("letter(0)", new InflatedRows().letter(0), STATE);
        is("letter(-1)", new InflatedRows().letter(-1), STATE);
    }
}
