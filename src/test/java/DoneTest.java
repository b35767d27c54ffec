/** Promises 10 to 17: what is done to a BOOK. */
public final class DoneTest {
    private static final int NONE = -1000000, BAD = -1000001, STATE = -1000002, FULL = -1000003;
    private static final int NULL = -1000011, PLACE = -1000012;
    private static final String BOOK = "r1,1;p1,2,ab;m3,4,abc;l5,6,c;f7,8,ad;xabcd;";
    private static final Due due = new Due();

    public static void main(String[] args) {
        promise10();
        promise10Refusals();
        promise11();
        promise12();
        promise13();
        promise14();
        promise14Refusals();
        promise15();
        promise16();
        promise17();
        due.end("DoneTest");
    }

    private static void promise10() {
        InflatedRows x = Due.with(BOOK);
        Due.row(x, 2, 3, 2, 1, 0, 9);
        due.is("word(1, 2, 4)", x.word(1, 2, 4), 3);
        due.is("its size", x.sort(1, 2), 4);
        for (int i = 0; i < 4; i++) due.is("its letter", x.sort(1, 10 + i), 3 - i);
        due.is("others stay", x.sort(0, 2), 2);
        due.is("others stay", x.sort(2, 10), 2);
        due.is("letters of all WORDS", x.count(3), 9);
        due.is("word(1, 2, 1)", x.word(1, 2, 1), 4);
        due.is("its size", x.sort(1, 2), 1);
        due.is("no letter behind it", x.sort(1, 11), NONE);
        due.is("the same again is an ACT, too", x.word(1, 2, 1), 1);
        due.is("ACTS", x.count(4), 3);
        due.is("of a fixed one", x.word(3, 2, 2), 2);
        due.is("its image stays", x.sort(3, 20), 3);
    }

    private static void promise10Refusals() {
        InflatedRows x = new InflatedRows();
        Due.row(x, 0, 0, 1, -1, 2);
        due.is("no BOOK", x.word(0, 0, 1), BAD);
        Due.book(x, "r1,1;p1,2,ab;p3,4,ba;xab;");
        due.is("SORT -1", x.word(-1, 0, 1), BAD);
        due.is("SORT 2", x.word(2, 0, 1), BAD);
        due.is("ROW -1", x.word(0, -1, 1), BAD);
        due.is("ROW 8", x.word(0, 8, 1), BAD);
        due.is("n 0", x.word(0, 0, 0), BAD);
        due.is("n 5", x.word(0, 0, 5), BAD);
        due.is("BAD is ahead of NULL", x.word(0, 1, 5), BAD);
        due.is("NULL", x.word(0, 1, 1), NULL);
        due.is("an ITEM below 0", x.word(0, 0, 3), PLACE);
        x.set(0, 2, 2);
        due.is("an ITEM that is no SORT here", x.word(0, 0, 3), PLACE);
        x.row(1, 0, 1);
        due.is("beyond the end", x.word(0, 1, 2), PLACE);
        x.set(1, 0, 2);
        due.is("the first ITEM is no letter", x.word(0, 1, 1), PLACE);
        due.is("nothing was done", x.count(4), 0);
        due.is("the WORD stays", x.sort(0, 11), 1);
        due.is("an ITEM behind the last that counts is free", x.word(0, 0, 2), 2);
    }

    private static void promise11() {
        InflatedRows x = Due.with(BOOK);
        due.is("length(2, 0, 9)", x.length(2, 0, 9), 5);
        due.is("P", x.sort(2, 0), 9);
        due.is("Q stays", x.sort(2, 1), 6);
        due.is("length(2, 1, 0)", x.length(2, 1, 0), 6);
        due.is("Q", x.sort(2, 1), 0);
        due.is("P of others stays", x.sort(1, 0), 3);
        due.is("the same again", x.length(2, 1, 0), 0);
        due.is("ACTS", x.count(4), 3);
        due.is("SORT 4", x.length(4, 0, 1), BAD);
        due.is("SORT -1", x.length(-1, 0, 1), BAD);
        due.is("which 2", x.length(0, 2, 1), BAD);
        due.is("which -1", x.length(0, -1, 1), BAD);
        due.is("v 10", x.length(0, 0, 10), BAD);
        due.is("v -1", x.length(0, 0, -1), BAD);
        due.is("ACTS", x.count(4), 3);
        due.is("no BOOK", new InflatedRows().length(0, 0, 0), BAD);
    }

    private static void promise12() {
        InflatedRows x = Due.with(BOOK);
        due.is("become(0, 5)", x.become(0, 5), 1);
        due.is("kind(0)", x.kind(0), 5);
        due.is("its image", x.sort(0, 3), 2);
        due.is("its WORD stays", x.sort(0, 11), 1);
        due.is("it is that", x.become(0, 5), STATE);
        due.is("become(3, 1)", x.become(3, 1), 4);
        due.is("its image", x.sort(3, 20), 0);
        due.is("ACTS", x.count(4), 2);
        due.is("kind 0", x.become(0, 0), BAD);
        due.is("kind 6", x.become(0, 6), BAD);
        due.is("SORT 4", x.become(4, 1), BAD);
        due.is("SORT -1", x.become(-1, 1), BAD);
        due.is("no BOOK", new InflatedRows().become(0, 1), BAD);
        due.is("ACTS", x.count(4), 2);
    }

    private static void promise13() {
        InflatedRows x = new InflatedRows();
        due.is("no BOOK is ahead of BAD", x.root(9, 9), STATE);
        Due.book(x, BOOK);
        due.is("root(0, 3)", x.root(0, 3), 1);
        due.is("M", x.whole(0), 3);
        due.is("K stays", x.whole(1), 1);
        due.is("root(0, 0)", x.root(0, 0), 3);
        due.is("root(1, 9)", x.root(1, 9), 1);
        due.is("root(1, 1)", x.root(1, 1), 9);
        due.is("the same again", x.root(1, 1), 1);
        due.is("ACTS", x.count(4), 5);
        due.is("M 4", x.root(0, 4), BAD);
        due.is("M -1", x.root(0, -1), BAD);
        due.is("K 0", x.root(1, 0), BAD);
        due.is("K 10", x.root(1, 10), BAD);
        due.is("which -1", x.root(-1, 1), BAD);
        due.is("which 2", x.root(2, 1), BAD);
        due.is("ACTS", x.count(4), 5);
    }

    private static void promise14() {
        InflatedRows x = Due.with(BOOK);
        Due.row(x, 7, 3, 3, 2, 2, 1, 1, 0, 0, 4);
        due.is("begin(7, 8)", x.begin(7, 8), 4);
        due.row("begun", x, "ddccbbaa");
        due.is("begin(7, 1)", x.begin(7, 1), 8);
        due.row("begun", x, "d");
        due.is("the same again", x.begin(7, 1), 1);
        due.is("ACTS", x.count(4), 3);
    }

    private static void promise14Refusals() {
        InflatedRows x = new InflatedRows();
        due.is("no BOOK is ahead of BAD", x.begin(9, 9), STATE);
        Due.book(x, "r1,1;p1,2,ab;p3,4,ba;xab;");
        due.is("ROW -1", x.begin(-1, 1), BAD);
        due.is("ROW 8", x.begin(8, 1), BAD);
        due.is("n 0", x.begin(0, 0), BAD);
        due.is("n 9", x.begin(0, 9), BAD);
        due.is("NULL", x.begin(0, 1), NULL);
        Due.row(x, 0, 0, 2);
        due.is("an ITEM that is no letter", x.begin(0, 2), PLACE);
        due.is("beyond the end", x.begin(0, 3), PLACE);
        due.is("ACTS", x.count(4), 0);
        due.row("THE ROW stays", x, "ab");
        x.set(0, 1, -1);
        due.is("an ITEM below 0", x.begin(0, 2), PLACE);
    }

    private static void promise15() {
        due.is("no BOOK", new InflatedRows().inflate(), STATE);
        InflatedRows x = Due.with("r1,1;p1,1,ab;p1,1,a;xa;");
        due.is("inflate", x.inflate(), 2);
        due.is("inflate", x.inflate(), 3);
        due.is("inflate", x.inflate(), 5);
        due.is("inflate, 8 are not too many", x.inflate(), 8);
        due.row("inflated", x, "abaababa");
        due.is("inflate", x.inflate(), FULL);
        due.is("letters", x.count(2), 8);
        due.is("ACTS", x.count(4), 4);
        InflatedRows y = Due.with(BOOK);
        due.is("more than 8: 2, 3, 1, 1", y.inflate(), 7);
        due.row("plain, mirrored, long, fixed", y, "abcbacd");
        InflatedRows z = Due.with("r1,1;s1,1,a;f1,1,a;xaba;");
        due.is("split, fixed", z.inflate(), 5);
        due.row("split, fixed", z, "aabaa");
        due.is("9 are too many", z.inflate(), FULL);
    }

    private static void promise16() {
        InflatedRows x = Due.with("r1,1;p1,2,abcd;m3,4,abc;s5,6,dcba;f7,8,ad;xabcd;");
        int[][] wants = {
            {1, 2, 4, 4, 0, 1, 2, 3, 0, 1, 2, 3},
            {3, 4, 3, 3, 0, 1, 2, NONE, 2, 1, 0, NONE},
            {5, 6, 4, 2, 3, 2, 1, 0, 2, 2, NONE, NONE},
            {7, 8, 2, 1, 0, 3, NONE, NONE, 3, NONE, NONE, NONE},
        };
        int[] whats = {0, 1, 2, 3, 10, 11, 12, 13, 20, 21, 22, 23};
        for (int sort = 0; sort < 4; sort++) {
            for (int i = 0; i < whats.length; i++) {
                due.is("sort(" + sort + ", " + whats[i] + ")", x.sort(sort, whats[i]), wants[sort][i]);
            }
        }
        for (int what : new int[] {-1, 4, 9, 14, 19, 24}) due.is("sort(0, " + what + ")", x.sort(0, what), BAD);
        due.is("sort(4, 0)", x.sort(4, 0), BAD);
        due.is("sort(-1, 0)", x.sort(-1, 0), BAD);
        due.is("no BOOK", new InflatedRows().sort(0, 0), BAD);
        InflatedRows y = Due.with(BOOK);
        due.is("P of a long one is as told", y.sort(2, 0), 5);
        due.is("Q of a long one is as told", y.sort(2, 1), 6);
        due.is("the IMAGE of a long one", y.sort(2, 20), 2);
    }

    private static void promise17() {
        InflatedRows x = new InflatedRows();
        due.is("no BOOK is ahead of BAD", x.letter(-1), STATE);
        Due.book(x, "r1,1;p1,1,ab;p1,1,a;xabba;");
        due.row("THE ROW", x, "abba");
        due.is("letter(-1)", x.letter(-1), BAD);
        due.is("letter(4)", x.letter(4), NONE);
        due.is("letter(8)", x.letter(8), NONE);
        due.is("letter(the most)", x.letter(Integer.MAX_VALUE), NONE);
    }
}
