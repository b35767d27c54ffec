/** Promises 18 to 25: what grows. */
public final class GrowsTest {
    private static final int NONE = -1000000, BAD = -1000001, STATE = -1000002, FULL = -1000003;
    private static final int NULL = -1000011, PLACE = -1000012, OVER = -1000016;
    private static final Due due = new Due();

    public static void main(String[] args) {
        promise18();
        promise19();
        promise20();
        promise21();
        promise22();
        promise23();
        promise24Pairs();
        promise24Scale();
        promise24Refusals();
        promise25();
        promise25Ways();
        promise25Refusals();
        due.end("GrowsTest");
    }

    private static void text(String call, String got, String want) {
        due.is(call + " is " + got + ", due is " + want, got.equals(want) ? 1 : 0, 1);
    }

    private static void promise18() {
        InflatedRows x = new InflatedRows();
        due.is("no BOOK is ahead of BAD", x.grown(7, 0), STATE);
        Due.book(x, "r1,1;p1,2,ab;m3,4,abc;l5,6,c;s7,8,ad;xabd;");
        text("grown 0", Due.grown(x, 0), "abd");
        text("grown 1", Due.grown(x, 1), "abcbadd");
        text("grown 2", Due.grown(x, 2), "abcbaccbaabdddd");
        due.is("not so many", x.grown(2, 15), NONE);
        due.is("n 7", x.grown(7, 0), BAD);
        due.is("n -1", x.grown(-1, 0), BAD);
        due.is("i -2", x.grown(0, -2), BAD);
        due.row("nothing changes", x, "abd");
        InflatedRows y = Due.with("r1,1;p1,1,aaaa;s1,1,a;p1,1,ba;xa;");
        due.is("256 letters", y.grown(4, -1), 256);
        due.is("1024 letters", y.grown(5, -1), FULL);
        due.is("BAD is ahead of FULL", y.grown(6, -2), BAD);
        due.is("FULL is ahead of NONE", y.grown(6, 4000), FULL);
        justThreeHundred();
    }

    private static void justThreeHundred() {
        // In three steps a is 48 letters, b 12, c 3, d 1.
        InflatedRows x = Due.with("r1,1;p1,0,bbbb;p1,0,cccc;p1,0,ddd;p1,0,d;xaaaaaabd;");
        due.is("301 letters", x.grown(3, -1), FULL);
        Due.row(x, 0, 0, 0, 0, 0, 0, 0, 1);
        x.begin(0, 7);
        due.is("300 letters", x.grown(3, -1), 300);
        due.is("the last of these", x.grown(3, 299), 3);
        due.is("none behind it", x.grown(3, 300), NONE);
    }

    private static void promise19() {
        InflatedRows x = new InflatedRows();
        due.is("no BOOK is ahead of BAD", x.origin(7, 0, 0), STATE);
        Due.book(x, "r1,1;p1,2,ab;m3,4,abc;l5,6,c;s7,8,ad;xabd;");
        int[] parents = {0, 0, 1, 1, 1, 2, 2};
        for (int i = 0; i < 7; i++) due.is("origin(1, " + i + ", 1)", x.origin(1, i, 1), parents[i]);
        int[] twice = {0, 0, 1, 1, 1, 2, 3, 3, 3, 4, 4, 5, 5, 6, 6};
        for (int i = 0; i < 15; i++) {
            due.is("origin(2, " + i + ", 0)", x.origin(2, i, 0), i);
            due.is("origin(2, " + i + ", 1)", x.origin(2, i, 1), twice[i]);
            due.is("origin(2, " + i + ", 2)", x.origin(2, i, 2), parents[twice[i]]);
        }
        due.is("no such letter", x.origin(2, 15, 0), BAD);
        due.is("no such letter", x.origin(2, -1, 0), BAD);
        due.is("no such step", x.origin(2, 0, 3), BAD);
        due.is("no such step", x.origin(2, 0, -1), BAD);
        due.is("n 7", x.origin(7, 0, 0), BAD);
        due.is("n -1", x.origin(-1, 0, 0), BAD);
        InflatedRows y = Due.with("r1,1;p1,1,aaaa;xa;");
        due.is("FULL", y.origin(6, 0, 0), FULL);
        due.is("FULL is ahead of BAD of a letter", y.origin(6, -1, 0), FULL);
        due.is("FULL is ahead of BAD of a step", y.origin(6, 0, 7), FULL);
        due.is("BAD of n is ahead of FULL", y.origin(7, 0, 0), BAD);
    }

    private static void promise20() {
        InflatedRows x = new InflatedRows();
        due.is("no BOOK is ahead of BAD", x.place(7, 0, 0), STATE);
        Due.book(x, "r1,1;p1,2,ab;m3,4,abc;l5,6,c;s7,8,ad;xabd;");
        // GROWN once: a b c b a d d; the long one counts twice.
        long[] ps = {0, 1, 4, 14, 17, 18, 25};
        long[] qs = {0, 2, 6, 18, 22, 24, 32};
        for (int i = 0; i < 7; i++) {
            due.is("place(1, " + i + ", 0)", x.place(1, i, 0), ps[i]);
            due.is("place(1, " + i + ", 1)", x.place(1, i, 1), qs[i]);
        }
        due.is("not so many", x.place(1, 7, 0), NONE);
        due.is("n 7", x.place(7, 0, 0), BAD);
        due.is("n -1", x.place(-1, 0, 0), BAD);
        due.is("i -1", x.place(1, -1, 0), BAD);
        due.is("what 2", x.place(1, 0, 2), BAD);
        due.is("what -1", x.place(1, 0, -1), BAD);
        InflatedRows y = Due.with("r1,1;p1,1,aaaa;xa;");
        due.is("FULL", y.place(6, 0, 0), FULL);
        due.is("BAD is ahead of FULL", y.place(6, 0, 2), BAD);
        due.is("the last place", y.place(4, 255, 1), 255);
    }

    private static void promise21() {
        due.is("no BOOK", new InflatedRows().numbers(0, 0), BAD);
        InflatedRows x = Due.with("r1,1;p1,2,ab;m3,4,abc;l5,6,c;s7,8,ad;xabd;");
        long[] after2 = {4, 4, 3, 4};
        for (int sort = 0; sort < 4; sort++) due.is("numbers(" + sort + ", 2)", x.numbers(sort, 2), after2[sort]);
        due.is("numbers(3, 0)", x.numbers(3, 0), 1);
        due.is("numbers(2, 0)", x.numbers(2, 0), 0);
        due.is("numbers(3, 30)", x.numbers(3, 30), 1L << 30);
        due.is("SORT 4", x.numbers(4, 0), BAD);
        due.is("SORT -1", x.numbers(-1, 0), BAD);
        due.is("n 61", x.numbers(0, 61), BAD);
        due.is("n -1", x.numbers(0, -1), BAD);
        // a becomes aaaa: 4 to the power of 31 is 2 to that of 62, and the next is beyond.
        InflatedRows y = Due.with("r1,1;p1,1,aaaa;f1,1,a;xab;");
        due.is("just within", y.numbers(0, 31), 1L << 62);
        due.is("beyond", y.numbers(0, 32), OVER);
        due.is("beyond, of another SORT", y.numbers(1, 32), OVER);
        due.is("status()", y.status(), 6);
        overOnTheWay();
        justTheMost();
    }

    /** What was beyond stays so, where a SORT gives all of its tiles away. */
    private static void overOnTheWay() {
        InflatedRows x = Due.with("r1,1;p1,1,bbbb;p1,1,aaaa;xaa;");
        due.is("30 times", x.numbers(0, 30), 1L << 61);
        due.is("31 times", x.numbers(1, 31), OVER);
        due.is("31 times, of the SORT that has none", x.numbers(0, 31), OVER);
        InflatedRows y = Due.with("r1,1;p1,1,bbbb;p1,1,aaaa;xa;");
        due.is("31 times", y.numbers(1, 31), 1L << 62);
        due.is("31 times, of the SORT that has none", y.numbers(0, 31), 0);
    }

    /** 8 split ones are 2 to the power of 63 after 60: one more than a long holds; 7 of them are not too many. */
    private static void justTheMost() {
        InflatedRows x = Due.with("r1,1;s1,1,a;f1,1,b;xaaaaaaaa;");
        due.is("59 times", x.numbers(0, 59), 1L << 62);
        due.is("60 times", x.numbers(0, 60), OVER);
        Due.row(x, 0, 0, 0, 0, 0, 0, 0, 0, 1);
        x.begin(0, 8);
        due.is("7 of them", x.numbers(0, 60), 7L << 60);
        due.is("the fixed one", x.numbers(1, 60), 1);
        // 7 of them, and b that leaves an a each time: one less than 8 would be, and so the most that there is.
        InflatedRows y = Due.with("r1,1;s1,1,a;p0,1,ba;xaaaaaaab;");
        due.is("the most", y.numbers(0, 60), Long.MAX_VALUE);
        due.is("the most, p", y.all(60, 0), Long.MAX_VALUE);
        due.is("one more, q", y.all(60, 1), OVER);
        due.is("one more, all", y.share(0, 60, 1), OVER);
        InflatedRows z = Due.with("r1,1;s4,5,a;p0,0,ba;xab;");
        due.is("four times a quarter of it", z.all(60, 0), Long.MAX_VALUE - 3);
        due.is("five times that", z.all(60, 1), OVER);
    }

    private static void promise22() {
        due.is("no BOOK", new InflatedRows().share(0, 0, 0), BAD);
        InflatedRows x = Due.with("r1,1;p1,2,ab;m3,4,abc;l5,6,c;s7,8,ad;xabd;");
        due.is("3 by 15, above", x.share(2, 2, 0), 1);
        due.is("3 by 15, below", x.share(2, 2, 1), 5);
        due.is("4 by 15, above", x.share(1, 2, 0), 4);
        due.is("4 by 15, below", x.share(1, 2, 1), 15);
        due.is("0 by 3, above", x.share(2, 0, 0), 0);
        due.is("0 by 3, below", x.share(2, 0, 1), 1);
        due.is("SORT 4", x.share(4, 0, 0), BAD);
        due.is("n 61", x.share(0, 61, 0), BAD);
        due.is("n -1", x.share(0, -1, 0), BAD);
        due.is("what 2", x.share(0, 0, 2), BAD);
        due.is("what -1", x.share(0, 0, -1), BAD);
        // 7 and 4 times 2 to the power of 60: neither is beyond, but the sum of both is.
        InflatedRows y = Due.with("r1,1;s1,1,a;s1,1,b;xaaaabbbb;");
        due.is("59 times", y.share(0, 59, 0), 1);
        due.is("59 times", y.share(0, 59, 1), 2);
        due.is("60 times: NUMBERS", y.numbers(0, 60), 1L << 62);
        due.is("60 times: the sum of all, above", y.share(0, 60, 0), OVER);
        due.is("60 times: the sum of all, below", y.share(0, 60, 1), OVER);
        due.is("status()", y.status(), 6);
        due.is("then a share", y.share(0, 2, 0), 1);
        due.is("status()", y.status(), 0);
    }

    private static void promise23() {
        due.is("no BOOK is ahead of BAD", new InflatedRows().all(61, 9), STATE);
        InflatedRows x = Due.with("r1,1;p1,2,ab;m3,4,abc;l5,6,c;s7,8,ad;xabd;");
        due.is("all(0, 0)", x.all(0, 0), 11);
        due.is("all(0, 1)", x.all(0, 1), 14);
        due.is("all(1, 0), the long one twice", x.all(1, 0), 32);
        due.is("all(1, 1), the long one twice", x.all(1, 1), 40);
        due.is("n 61", x.all(61, 0), BAD);
        due.is("n -1", x.all(-1, 0), BAD);
        due.is("what 2", x.all(0, 2), BAD);
        due.is("what -1", x.all(0, -1), BAD);
        // 7 times 2 to the power of 60 tiles: once that is within, twice that is beyond.
        InflatedRows y = Due.with("r1,1;s1,2,a;xaaaaaaa;");
        due.is("p within", y.all(60, 0), 7L << 60);
        due.is("status()", y.status(), 0);
        due.is("q beyond", y.all(60, 1), OVER);
        due.is("status()", y.status(), 6);
        due.is("q within", y.all(59, 1), 7L << 60);
        InflatedRows z = Due.with("r1,1;p0,0,aaaa;xa;");
        due.is("NUMBERS beyond, though nothing is long", z.all(32, 0), OVER);
        due.is("NUMBERS within", z.all(31, 0), 0);
        InflatedRows w = Due.with("r1,1;s1,9,a;s1,9,b;xaaaabbbb;");
        due.is("a sum that is beyond", w.all(60, 0), OVER);
    }

    private static int pairs(String... pairs) {
        int bits = 0;
        for (String pair : pairs) bits |= 1 << 4 * (pair.charAt(0) - 'a') + pair.charAt(1) - 'a';
        return bits;
    }

    private static void pairsOf(String text, String... pairs) {
        InflatedRows x = Due.with(text);
        due.is(text + ": PAIRS", x.whole(3), pairs(pairs));
        due.is(text + ": how many", x.whole(4), pairs.length);
    }

    private static void promise24Pairs() {
        pairsOf("r1,1;p1,1,ab;p1,1,a;xa;", "ab", "ba", "aa");
        pairsOf("r1,1;f1,1,b;f1,1,a;xab;", "ab");
        pairsOf("r1,1;f1,1,b;f1,1,a;xa;");
        pairsOf("r1,1;s1,1,b;f1,1,a;xab;", "aa", "ab");
        pairsOf("r1,1;p1,1,b;p1,1,c;p1,1,d;p1,1,a;xac;", "ac", "bd", "ca", "db");
        pairsOf("r1,1;m1,1,abc;f1,1,b;f1,1,c;xa;", "cb", "ba", "bc");
        pairsOf("r1,1;m1,1,bcd;f1,1,b;f1,1,c;f1,1,d;xa;", "dc", "cb");
        pairsOf("r1,1;l1,1,abc;f1,1,b;f1,1,c;xa;", "ab", "bc", "cb");
        pairsOf("r1,1;l1,1,bcd;f1,1,b;f1,1,c;f1,1,d;xa;", "bc", "cd");
        // Letters that never lie in THE ROW bring nothing.
        pairsOf("r1,1;p1,1,a;p1,1,bb;xaa;", "aa");
        pairsOf("r1,1;p1,1,bb;p1,1,b;xb;");
        InflatedRows y = Due.with("r1,1;p1,1,ab;p1,1,bb;xa;");
        y.row(0, 0, 1);
        y.word(0, 0, 1);
        due.is("nor does what a WORD had", y.whole(3), 0);
        // Late ones: only behind the third inflation does d lie beside itself.
        pairsOf("r1,1;p1,1,b;p1,1,c;p1,1,dd;f1,1,a;xa;", "dd");
        InflatedRows x = Due.with("r3,7;p1,1,ab;p1,1,a;xaba;");
        due.is("M", x.whole(0), 3);
        due.is("K", x.whole(1), 7);
        due.is("letters", x.whole(2), 3);
    }

    private static void scale(String text, int s, int t) {
        InflatedRows x = Due.with(text);
        due.is(text + ": s", x.whole(5), s);
        due.is(text + ": t", x.whole(6), t);
    }

    private static void promise24Scale() {
        scale("r1,1;p0,1,ab;p1,0,a;xa;", 0, 1);
        scale("r1,1;p1,0,a;xa;", 1, 0);
        scale("r1,1;p1,0,aaaa;xa;", 4, 0);
        scale("r1,1;p0,0,aaaa;xa;", 0, 0);
        scale("r1,1;p1,0,a;p1,0,aa;xa;", NONE, NONE);
        // Long ones count twice: a of 2 becomes b and b of 1 each; b becomes b.
        scale("r1,1;l1,0,bb;p1,0,b;xa;", 1, 0);
        scale("r1,1;s3,2,a;xa;", 2, 0);
        scale("r1,1;f3,2,a;xa;", 1, 0);
        // R R = 2 R + 3: R is 3, but numbers are taken as they come, so that 3 would not do.
        scale("r2,3;p0,1,aabc;p3,0,aaa;p0,0,c;xa;", 0, 1);
        // A SORT that never lies in THE ROW counts, too.
        scale("r1,1;p1,0,a;p1,0,bb;xa;", NONE, NONE);
        // With R R = 1 both 3 and 3 R would do, and what lies between: the least s.
        scale("r0,1;p1,1,aaa;xa;", 0, 3);
        scale("r0,1;p1,1,aaaa;xa;", 0, 4);
    }

    private static void promise24Refusals() {
        InflatedRows x = new InflatedRows();
        due.is("no BOOK is ahead of BAD", x.whole(7), STATE);
        Due.book(x, "r1,1;p0,1,ab;p1,0,a;xa;");
        due.is("whole(7)", x.whole(7), BAD);
        due.is("whole(-1)", x.whole(-1), BAD);
    }

    private static void back(InflatedRows x, String letters, int ways, String first) {
        x.row(0, 0, letters.length());
        for (int i = 0; i < letters.length(); i++) x.set(0, i, letters.charAt(i) - 'a');
        due.is("ways back of " + letters, x.back(0, letters.length(), -1), ways);
        for (int i = 0; i <= letters.length(); i++) {
            int want = i < first.length() ? first.charAt(i) - 'a' : NONE;
            due.is("letter " + i + " of the first one back of " + letters, x.back(0, letters.length(), i), want);
        }
    }

    private static void promise25() {
        InflatedRows x = Due.with("r1,1;p1,1,ab;p1,1,a;xa;");
        back(x, "abaab", 1, "aba");
        back(x, "aaa", 1, "bbb");
        back(x, "b", 0, "");
        back(x, "abb", 0, "");
        InflatedRows y = Due.with("r1,1;p1,1,cc;p1,1,c;f1,1,a;xa;");
        // c c is of a, of b b, b c, c b, c c: a is the least.
        back(y, "cc", 5, "a");
        back(y, "ccc", 12, "ab");
        back(y, "cca", 0, "");
        InflatedRows z = Due.with("r1,1;m1,1,bcd;p1,1,b;p1,1,dc;p1,1,cd;xa;");
        back(z, "dcb", 2, "a");
        back(z, "dcbb", 2, "ab");
        back(z, "cdb", 1, "db");
        InflatedRows w = Due.with("r1,1;s1,1,b;l1,1,ab;xa;");
        back(w, "aaab", 1, "ab");
        back(w, "aaa", 0, "");
    }

    private static void promise25Ways() {
        InflatedRows x = Due.with("r1,1;p1,1,a;p1,1,a;xa;");
        x.row(1, 0, 40);
        due.is("2 to the power of 19", x.back(1, 19, -1), 524288);
        due.is("2 to the power of 20", x.back(1, 20, -1), 1000000);
        due.is("2 to the power of 40", x.back(1, 40, -1), 1000000);
        due.is("the last of the first", x.back(1, 40, 39), 0);
        due.is("none behind it", x.back(1, 40, 40), NONE);
        due.is("none far behind it", x.back(1, 40, Integer.MAX_VALUE), NONE);
        InflatedRows y = Due.with("r1,1;p1,1,a;p1,1,a;p1,1,a;p1,1,a;xa;");
        y.row(1, 0, 40);
        due.is("4 to the power of 40", y.back(1, 40, -1), 1000000);
    }

    private static void promise25Refusals() {
        InflatedRows x = new InflatedRows();
        due.is("no BOOK is ahead of BAD", x.back(9, 0, -2), STATE);
        Due.book(x, "r1,1;p1,1,ab;p1,1,a;xa;");
        due.is("ROW 8", x.back(8, 1, 0), BAD);
        due.is("ROW -1", x.back(-1, 1, 0), BAD);
        due.is("n 0", x.back(0, 0, 0), BAD);
        due.is("n 41", x.back(0, 41, 0), BAD);
        due.is("what -2", x.back(0, 1, -2), BAD);
        due.is("NULL", x.back(0, 1, 0), NULL);
        Due.row(x, 0, 0, 1, 2, -1);
        due.is("beyond the end", x.back(0, 5, 0), PLACE);
        due.is("an ITEM that is no letter", x.back(0, 3, -1), PLACE);
        x.set(0, 2, 0);
        due.is("an ITEM below 0", x.back(0, 4, -1), PLACE);
        due.is("an ITEM behind the last that counts is free", x.back(0, 3, -1), 1);
        due.is("status()", x.status(), 0);
    }
}
