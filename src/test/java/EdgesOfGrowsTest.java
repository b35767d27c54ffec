/** The edges of promises 18 to 25, and of GROWN, ORIGIN, PAIRS, NUMBERS, SHARES, SCALE and BACK. */
public final class EdgesOfGrowsTest extends Edges {
    private static final String KINDS = "r1,1;p1,2,ab;m3,4,abc;l5,6,c;s7,8,ad;xabd;";
    /** In three steps a is 48 letters, b 12, c 3, d 1. */
    private static final String LADDER = "r1,1;p1,0,bbbb;p1,0,cccc;l9,9,ddd;p1,0,d;";

    private EdgesOfGrowsTest() {
        super(18, 25);
    }

    public static void main(String[] args) {
        EdgesOfGrowsTest edges = new EdgesOfGrowsTest();
        edges.promise18();
        edges.promise18Full();
        edges.promise18Refusals();
        edges.promise19();
        edges.promise19Refusals();
        edges.promise20();
        edges.promise20Refusals();
        edges.promise21();
        edges.promise21Over();
        edges.promise22();
        edges.promise22Refusals();
        edges.promise23();
        edges.promise23Over();
        edges.promise24Pairs();
        edges.promise24LatePairs();
        edges.promise24Scale();
        edges.promise24Refusals();
        edges.promise25();
        edges.promise25First();
        edges.promise25Most();
        edges.promise25Refusals();
        edges.end();
    }

    private void promise18() {
        InflatedRows x = Due.with(KINDS);
        test(18, "GROWN 0 times: THE ROW itself");
        same("GROWN", Due.grown(x, 0), "abd");
        is("how many", x.grown(0, -1), 3);
        test(18, "GROWN once, twice: by the IMAGE of each KIND");
        same("once", Due.grown(x, 1), "abcbadd");
        same("twice", Due.grown(x, 2), "abcbaccbaabdddd");
        same("fixed", Due.grown(Due.with("r1,1;f1,1,b;p1,1,ab;xab;"), 3), "aaaab");
        test(18, "GROWN 6 times is not too often");
        InflatedRows y = Due.with("r1,1;s1,1,a;f1,1,b;xaaaabbbb;");
        is("how many", y.grown(6, -1), 260);
        is("the last split one", y.grown(6, 255), 0);
        is("the first fixed one", y.grown(6, 256), 1);
        is("the last", y.grown(6, 259), 1);
        test(18, "letter i: the first, the last; NONE: not so many");
        is("the first", x.grown(1, 0), 0);
        is("the last", x.grown(1, 6), 3);
        is("one more", x.grown(1, 7), NONE);
        is("far more", x.grown(1, MOST), NONE);
        is("one more, of THE ROW", x.grown(0, 3), NONE);
        test(18, "i = -1: how many, also of one letter alone");
        is("one", Due.with("r1,1;f1,1,a;xa;").grown(6, -1), 1);
        test(18, "a smaller n behind a greater one is not what the greater was");
        x.grown(4, -1);
        is("how many", x.grown(1, -1), 7);
        is("one more", x.grown(1, 7), NONE);
    }

    private void promise18Full() {
        test(18, "300 letters are not too many");
        InflatedRows x = Due.with(LADDER + "xaaaaaab;");
        is("how many", x.grown(3, -1), 300);
        is("the last", x.grown(3, 299), 3);
        is("one more", x.grown(3, 300), NONE);
        is("they stay 300", x.grown(6, -1), 300);
        test(18, "FULL: more than 300 letters, by one");
        InflatedRows y = Due.with(LADDER + "xaaaaaabd;");
        is("two steps", y.grown(2, -1), 6 * 16 + 12 + 1);
        is("301 letters", y.grown(3, -1), FULL);
        is("301 letters, letter 0", y.grown(3, 0), FULL);
        is("all further steps", y.grown(6, -1), FULL);
        test(18, "FULL is ahead of NONE: not so many");
        is("letter 1000", y.grown(3, 1000), FULL);
        test(18, "FULL far beyond");
        is("32768 letters", Due.with("r1,1;p1,1,aaaa;xaaaaaaaa;").grown(6, -1), FULL);
    }

    private void promise18Refusals() {
        InflatedRows x = Due.with("r1,1;p1,1,aaaa;xa;");
        test(18, "BAD: n is 0 to 6");
        for (int n : new int[] {-1, 7, LEAST, MOST}) is("n " + n, x.grown(n, 0), BAD);
        test(18, "BAD: i below -1");
        is("i -2", x.grown(0, -2), BAD);
        is("the least", x.grown(0, LEAST), BAD);
        test(18, "FULL is behind BAD");
        is("FULL", x.grown(6, -1), FULL);
        is("i -2", x.grown(6, -2), BAD);
        test(18, "STATE, no BOOK, is ahead of BAD");
        InflatedRows y = new InflatedRows();
        is("n 7", y.grown(7, 0), STATE);
        is("i -2", y.grown(0, -2), STATE);
    }

    private void promise19() {
        InflatedRows x = Due.with(KINDS);
        test(19, "0 steps back: the letter itself");
        for (int i = 0; i < 3; i++) is("GROWN 0 times", x.origin(0, i, 0), i);
        for (int i = 0; i < 15; i++) is("GROWN twice", x.origin(2, i, 0), i);
        test(19, "1 step back, up to n steps back");
        int[] once = {0, 0, 1, 1, 1, 2, 2};
        for (int i = 0; i < 7; i++) is("letter " + i + " of 7", x.origin(1, i, 1), once[i]);
        int[] twice = {0, 0, 1, 1, 1, 2, 3, 3, 3, 4, 4, 5, 5, 6, 6};
        for (int i = 0; i < 15; i++) {
            is("letter " + i + " of 15, a step", x.origin(2, i, 1), twice[i]);
            is("letter " + i + " of 15, two steps", x.origin(2, i, 2), once[twice[i]]);
        }
        test(19, "6 steps back of GROWN 6 times, the first letter and the last");
        InflatedRows y = Due.with("r1,1;s1,1,a;f1,1,b;xaaaabbbb;");
        is("the first", y.origin(6, 0, 6), 0);
        is("letter 63", y.origin(6, 63, 6), 0);
        is("letter 64", y.origin(6, 64, 6), 1);
        is("letter 255", y.origin(6, 255, 6), 3);
        is("the last", y.origin(6, 259, 6), 7);
        is("the last, five steps", y.origin(6, 259, 5), 11);
        test(19, "the last of 300 letters");
        is("origin", Due.with(LADDER + "xaaaaaab;").origin(3, 299, 3), 6);
    }

    private void promise19Refusals() {
        InflatedRows x = Due.with(KINDS);
        test(19, "BAD: n is 0 to 6");
        for (int n : new int[] {-1, 7, LEAST, MOST}) is("n " + n, x.origin(n, 0, 0), BAD);
        test(19, "BAD: there is no such letter");
        for (int i : new int[] {-1, 15, LEAST, MOST}) is("letter " + i, x.origin(2, i, 0), BAD);
        is("letter 3 of THE ROW", x.origin(0, 3, 0), BAD);
        test(19, "BAD: there is no such step");
        for (int j : new int[] {-1, 3, LEAST, MOST}) is("step " + j, x.origin(2, 0, j), BAD);
        is("step 1 of GROWN 0 times", x.origin(0, 0, 1), BAD);
        test(19, "STATE, no BOOK, is ahead of BAD");
        is("n 7", new InflatedRows().origin(7, 0, 0), STATE);
        is("letter -1", new InflatedRows().origin(0, -1, 0), STATE);
        InflatedRows y = Due.with(LADDER + "xaaaaaabd;");
        test(19, "FULL: more than 300 letters");
        is("301 letters", y.origin(3, 0, 0), FULL);
        is("109 letters", y.origin(2, 108, 2), 7);
        test(19, "FULL is behind BAD of n");
        is("n 7", y.origin(7, 0, 0), BAD);
        test(19, "FULL is behind BAD of n alone: ahead of BAD of the letter and of the step");
        is("letter -1", y.origin(3, -1, 0), FULL);
        is("letter 1000", y.origin(3, 1000, 0), FULL);
        is("step 4", y.origin(3, 0, 4), FULL);
        is("step -1", y.origin(3, 0, -1), FULL);
    }

    private void promise20() {
        InflatedRows x = Due.with(KINDS);
        test(20, "the first letter lies at 0");
        is("p", x.place(0, 0, 0), 0);
        is("q", x.place(0, 0, 1), 0);
        is("p, GROWN twice", x.place(2, 0, 0), 0);
        test(20, "LENGTHS of all ahead of it, together; of a long one twice that");
        // a b c b a d d, with c twice 5, 6
        long[] ps = {0, 1, 4, 14, 17, 18, 25};
        long[] qs = {0, 2, 6, 18, 22, 24, 32};
        for (int i = 0; i < 7; i++) {
            is("p of " + i, x.place(1, i, 0), ps[i]);
            is("q of " + i, x.place(1, i, 1), qs[i]);
        }
        test(20, "NONE: not so many");
        is("one more", x.place(1, 7, 0), NONE);
        is("far more", x.place(1, MOST, 1), NONE);
        is("of THE ROW", x.place(0, 3, 0), NONE);
        test(20, "GROWN 6 times, the last of 300 letters");
        InflatedRows y = Due.with(LADDER + "xaaaaaab;");
        is("p", y.place(6, 299, 0), 299);
        is("q", y.place(6, 299, 1), 0);
        is("one more", y.place(6, 300, 0), NONE);
        InflatedRows z = Due.with("r1,1;s9,9,a;l9,9,b;xaaaabbbb;");
        is("as long as can be", z.place(6, 259, 1), 256 * 9 + 3 * 18);
    }

    private void promise20Refusals() {
        InflatedRows x = Due.with(KINDS);
        test(20, "BAD: n is 0 to 6");
        for (int n : new int[] {-1, 7, LEAST, MOST}) is("n " + n, x.place(n, 0, 0), BAD);
        test(20, "BAD: letters go from 0 on");
        is("i -1", x.place(1, -1, 0), BAD);
        is("the least", x.place(1, LEAST, 0), BAD);
        test(20, "BAD: what is 0 or 1");
        for (int what : new int[] {-1, 2, LEAST, MOST}) is("what " + what, x.place(1, 0, what), BAD);
        is("ahead of NONE", x.place(1, 7, 2), BAD);
        InflatedRows y = Due.with(LADDER + "xaaaaaabd;");
        test(20, "FULL: more than 300 letters; it is behind BAD");
        is("FULL", y.place(3, 0, 0), FULL);
        is("FULL ahead of NONE", y.place(3, 1000, 0), FULL);
        is("n 7", y.place(7, 0, 0), BAD);
        is("i -1", y.place(3, -1, 0), BAD);
        is("what 2", y.place(3, 0, 2), BAD);
        test(20, "STATE, no BOOK, is ahead of BAD");
        InflatedRows z = new InflatedRows();
        is("n 7", z.place(7, 0, 0), STATE);
        is("i -1", z.place(0, -1, 0), STATE);
        is("what 2", z.place(0, 0, 2), STATE);
    }

    private void promise21() {
        InflatedRows x = Due.with(KINDS);
        test(21, "after 0 inflations: as they lie in THE ROW, 0 too");
        long[] none = {1, 1, 0, 1};
        for (int sort = 0; sort < 4; sort++) is("SORT " + sort, x.numbers(sort, 0), none[sort]);
        test(21, "after 1 and 2 inflations, by the IMAGE of each KIND");
        long[] one = {2, 2, 1, 2};
        long[] two = {4, 4, 3, 4};
        for (int sort = 0; sort < 4; sort++) {
            is("SORT " + sort, x.numbers(sort, 1), one[sort]);
            is("SORT " + sort, x.numbers(sort, 2), two[sort]);
        }
        test(21, "after 60 inflations");
        InflatedRows y = Due.with("r1,1;s1,1,a;f1,1,b;p1,1,cb;xabc;");
        is("split", y.numbers(0, 60), 1L << 60);
        is("fixed, and one more each time", y.numbers(1, 60), 61);
        is("once", y.numbers(2, 60), 1);
        test(21, "more than 300 letters are not FULL here");
        is("2 to the power of 10", y.numbers(0, 10), 1024);
        test(21, "BAD: there is no such SORT");
        for (int sort : new int[] {-1, 4, LEAST, MOST}) is("SORT " + sort, x.numbers(sort, 0), BAD);
        is("SORT 3 of three", y.numbers(3, 0), BAD);
        test(21, "BAD: n is 0 to 60");
        for (int n : new int[] {-1, 61, LEAST, MOST}) is("n " + n, x.numbers(0, n), BAD);
    }

    private void promise21Over() {
        // 7 split ones, and one more each time of b: 2 to the power of 63, less 1.
        InflatedRows x = Due.with("r1,1;s1,1,a;p0,1,ba;xaaaaaaab;");
        test(21, "the greatest number of a long is not OVER");
        is("the most", x.numbers(0, 60), Long.MAX_VALUE);
        is("status()", x.status(), 0);
        test(21, "OVER: beyond the numbers of a long, by one");
        InflatedRows y = Due.with("r1,1;s1,1,a;f1,1,b;xaaaaaaaa;");
        is("59 times", y.numbers(0, 59), 1L << 62);
        is("60 times", y.numbers(0, 60), OVER);
        is("status()", y.status(), 6);
        test(21, "OVER: that of any SORT, also where the one that is asked is small");
        is("a SORT that there is none of", y.numbers(1, 60), OVER);
        InflatedRows z = Due.with("r1,1;f1,1,a;p1,1,bbbb;xab;");
        is("31 times", z.numbers(0, 31), 1);
        is("32 times", z.numbers(0, 32), OVER);
        test(21, "OVER: beyond after fewer, and by sums and products that would wrap around to 0");
        is("32 times", z.numbers(1, 32), OVER);
        is("33 times", z.numbers(1, 33), OVER);
        is("60 times", z.numbers(1, 60), OVER);
        InflatedRows w = Due.with("r1,1;p1,1,bbbb;p1,1,aaaa;xaa;");
        is("30 times", w.numbers(0, 30), 1L << 61);
        is("31 times, the SORT that is away", w.numbers(0, 31), OVER);
        is("32 times", w.numbers(0, 32), OVER);
        test(21, "OVER: a sum that is beyond by what two SORTS bring");
        InflatedRows v = Due.with("r1,1;s1,1,a;s1,1,b;p1,1,ab;p1,1,ac;xaaaabbbb;");
        is("60 times", v.numbers(0, 60), 1L << 62);
        InflatedRows u = Due.with("r1,1;p1,1,ba;p1,1,ba;xaaaabbbb;");
        is("60 times", u.numbers(0, 60), 1L << 62);
        InflatedRows t = Due.with("r1,1;p1,1,aa;p1,1,aa;xaaaabbbb;");
        is("59 times", t.numbers(0, 59), 1L << 62);
        is("60 times, twice that", t.numbers(0, 60), OVER);
    }

    private void promise22() {
        InflatedRows x = Due.with(KINDS);
        test(22, "in lowest terms");
        is("3 by 15, above", x.share(2, 2, 0), 1);
        is("3 by 15, below", x.share(2, 2, 1), 5);
        is("4 by 15, above", x.share(1, 2, 0), 4);
        is("4 by 15, below", x.share(1, 2, 1), 15);
        test(22, "0 is 0 by 1");
        is("above", x.share(2, 0, 0), 0);
        is("below", x.share(2, 0, 1), 1);
        test(22, "all is 1 by 1");
        InflatedRows y = Due.with("r1,1;p1,1,aaa;p1,1,a;xaaaaa;");
        is("above", y.share(0, 30, 0), 1);
        is("below", y.share(0, 30, 1), 1);
        test(22, "the sum of all is the greatest number of a long: not OVER");
        // Twice as many each time, and one more of b: 8 times 2 to the power of 60, less 1.
        InflatedRows z = Due.with("r1,1;s1,1,a;p1,1,baa;xaaaaaab;");
        is("above, of b", z.share(1, 60, 0), 1);
        is("below, of b", z.share(1, 60, 1), Long.MAX_VALUE);
        is("above, of a", z.share(0, 60, 0), Long.MAX_VALUE - 1);
        is("status()", z.status(), 0);
        test(22, "OVER: the sum of all, too, by one");
        InflatedRows w = Due.with("r1,1;s1,1,a;p1,1,ba;xaaaaaaab;");
        is("NUMBERS", w.numbers(0, 60), Long.MAX_VALUE);
        is("above", w.share(0, 60, 0), OVER);
        is("below", w.share(0, 60, 1), OVER);
        is("of b", w.share(1, 60, 0), OVER);
        is("status()", w.status(), 6);
        test(22, "OVER: a sum of four that would wrap around to 0");
        InflatedRows v = Due.with("r1,1;s1,1,a;s1,1,b;s1,1,c;s1,1,d;xaabbccdd;");
        is("59 times", v.share(3, 59, 1), 4);
        is("60 times", v.share(3, 60, 1), OVER);
        InflatedRows u = Due.with("r1,1;p1,1,abcd;p1,1,abcd;p1,1,abcd;p1,1,abcd;xabcd;");
        is("30 times", u.share(3, 30, 1), 4);
        is("31 times: NUMBERS", u.numbers(3, 31), 1L << 62);
        is("31 times", u.share(3, 31, 1), OVER);
        test(22, "OVER: NUMBERS are");
        is("32 times", Due.with("r1,1;p1,1,aaaa;f1,1,a;xa;").share(1, 32, 0), OVER);
    }

    private void promise22Refusals() {
        InflatedRows x = Due.with("r1,1;p1,1,aaaa;f1,1,a;xa;");
        test(22, "BAD: there is no such SORT");
        for (int sort : new int[] {-1, 2, LEAST, MOST}) is("SORT " + sort, x.share(sort, 0, 0), BAD);
        test(22, "BAD: n is 0 to 60");
        for (int n : new int[] {-1, 61, LEAST, MOST}) is("n " + n, x.share(0, n, 0), BAD);
        test(22, "BAD: what is 0 or 1; ahead of OVER");
        for (int what : new int[] {-1, 2, LEAST, MOST}) {
            is("what " + what, x.share(0, 0, what), BAD);
            is("what " + what + ", OVER", x.share(0, 60, what), BAD);
        }
    }

    private void promise23() {
        InflatedRows x = Due.with(KINDS);
        test(23, "after 0 inflations, and 1: LENGTHS of all together, of a long one twice that");
        is("p", x.all(0, 0), 1 + 3 + 7);
        is("q", x.all(0, 1), 2 + 4 + 8);
        is("p after 1", x.all(1, 0), 2 * 1 + 2 * 3 + 10 + 2 * 7);
        is("q after 1", x.all(1, 1), 2 * 2 + 2 * 4 + 12 + 2 * 8);
        test(23, "after 60 inflations");
        InflatedRows y = Due.with("r1,1;s1,0,a;f0,9,b;xab;");
        is("p", y.all(60, 0), 1L << 60);
        is("q", y.all(60, 1), 9);
        test(23, "BAD: n is 0 to 60");
        for (int n : new int[] {-1, 61, LEAST, MOST}) is("n " + n, x.all(n, 0), BAD);
        test(23, "BAD: what is 0 or 1; ahead of OVER");
        InflatedRows z = Due.with("r1,1;p1,1,aaaa;xa;");
        for (int what : new int[] {-1, 2, LEAST, MOST}) {
            is("what " + what, z.all(0, what), BAD);
            is("what " + what + ", OVER", z.all(60, what), BAD);
        }
        test(23, "STATE, no BOOK, is ahead of BAD");
        is("all(0, 0)", new InflatedRows().all(0, 0), STATE);
        is("n 61", new InflatedRows().all(61, 0), STATE);
        is("what 2", new InflatedRows().all(0, 2), STATE);
    }

    private void promise23Over() {
        test(23, "the greatest number of a long is not OVER");
        InflatedRows x = Due.with("r1,1;s1,1,a;p0,1,ba;xaaaaaaab;");
        is("p", x.all(60, 0), Long.MAX_VALUE);
        is("status()", x.status(), 0);
        test(23, "OVER: that which is asked is beyond, by one");
        is("q", x.all(60, 1), OVER);
        is("status()", x.status(), 6);
        is("p, though q is", x.all(60, 0), Long.MAX_VALUE);
        is("status()", x.status(), 0);
        test(23, "OVER: q within, p beyond");
        InflatedRows y = Due.with("r1,1;s9,0,a;xa;");
        is("p", y.all(60, 0), OVER);
        is("q", y.all(60, 1), 0);
        test(23, "OVER: a long one counts twice");
        InflatedRows z = Due.with("r1,1;p0,0,abb;l2,1,b;xa;");
        is("p within", z.all(60, 0), 60 * 2 * 4);
        InflatedRows w = Due.with("r1,1;l1,2,aaaa;xa;");
        is("31 times, twice 2 to the power of 62", w.all(31, 0), OVER);
        is("30 times", w.all(30, 0), 1L << 61);
        is("30 times", w.all(30, 1), 1L << 62);
        test(23, "OVER: if NUMBERS are, though nothing is long");
        InflatedRows v = Due.with("r1,1;p0,0,aaaa;xa;");
        is("31 times", v.all(31, 0), 0);
        is("32 times", v.all(32, 0), OVER);
        test(23, "OVER: sums and products that would wrap around");
        InflatedRows u = Due.with("r1,1;s8,4,a;s8,4,b;xab;");
        is("60 times 8: 2 to the power of 64", u.all(60, 0), OVER);
        is("60 times 4, twice: 2 to the power of 63", u.all(60, 1), OVER);
        is("59 times", u.all(59, 1), 1L << 62);
    }

    private void pairsAre(String text, String... pairs) {
        InflatedRows x = Due.with(text);
        is(text + ": PAIRS", x.whole(3), pairs(pairs));
        is(text + ": how many", x.whole(4), pairs.length);
    }

    private void promise24Pairs() {
        InflatedRows x = Due.with("r3,9;p1,1,a;xaaaaaaaa;");
        test(24, "0 M, 1 K, 2 letters of THE ROW");
        is("M", x.whole(0), 3);
        is("K", x.whole(1), 9);
        is("letters", x.whole(2), 8);
        is("one letter", Due.with("r0,1;p1,1,a;xa;").whole(2), 1);
        test(24, "PAIRS: none, where one letter stays alone");
        pairsAre("r1,1;f1,1,a;xa;");
        pairsAre("r1,1;p1,1,b;p1,1,a;xa;");
        test(24, "PAIRS: bit 4 times x, and y: the first of them and the last");
        pairsAre("r1,1;s1,1,a;xa;", "aa");
        is("bit 0", Due.with("r1,1;s1,1,a;xa;").whole(3), 1);
        is("bit 15", Due.with("r1,1;f1,1,a;f1,1,a;f1,1,a;f1,1,a;xdd;").whole(3), 1 << 15);
        is("bit 3", Due.with("r1,1;f1,1,a;f1,1,a;f1,1,a;f1,1,a;xad;").whole(3), 1 << 3);
        is("bit 12", Due.with("r1,1;f1,1,a;f1,1,a;f1,1,a;f1,1,a;xda;").whole(3), 1 << 12);
        test(24, "PAIRS: all 16, that no sign is seen");
        InflatedRows y = Due.with("r1,1;p1,1,abcd;p1,1,bdac;p1,1,aabb;p1,1,ccdd;xabcd;");
        is("16 bits at most", y.whole(3) >> 16, 0);
        InflatedRows z = Due.with("r1,1;p1,1,abbd;p1,1,bdac;p1,1,caad;p1,1,ddcc;xabcdbacd;");
        is("all", z.whole(3), 65535);
        is("16", z.whole(4), 16);
        test(24, "PAIRS of THE ROW as it is count, also where they never come again");
        pairsAre("r1,1;p1,1,c;p1,1,c;f1,1,a;xab;", "ab", "cc");
        test(24, "PAIRS: letters that never lie in THE ROW bring none");
        pairsAre("r1,1;p1,1,a;p1,1,bb;xaa;", "aa");
        pairsAre("r1,1;p1,1,bb;p1,1,b;xb;");
        test(24, "PAIRS: within IMAGES of each KIND, and where two of them meet");
        pairsAre("r1,1;m1,1,bc;f1,1,b;f1,1,c;xaa;", "aa", "cb", "bc");
        pairsAre("r1,1;l1,1,bc;f1,1,b;f1,1,c;xaa;", "aa", "bc", "cb");
        pairsAre("r1,1;s1,1,b;f1,1,a;xab;", "aa", "ab");
    }

    private void promise24LatePairs() {
        test(24, "PAIRS, GROWN however often: what comes after three inflations");
        pairsAre("r1,1;p1,1,b;p1,1,c;p1,1,dd;f1,1,a;xa;", "dd");
        test(24, "PAIRS, GROWN however often: what comes after more than 6 inflations");
        String slow = "r1,1;p1,1,b;p1,1,c;p1,1,d;p1,1,ab;xa;";
        // The last of these, d b, first comes after 16 inflations; a a, a c, a d never do.
        pairsAre(slow, "ab", "ba", "bb", "bc", "bd", "ca", "cb", "cc", "cd", "da", "db", "dc", "dd");
        is("GROWN up to 6 times there are but three", pairsByGrowing(Due.with(slow)), pairs("ab", "bc", "cd"));
    }

    /** PAIRS that are seen in THE ROW, GROWN 0 to 6 times. */
    private static int pairsByGrowing(InflatedRows x) {
        int bits = 0;
        for (int n = 0; n <= 6; n++) {
            int many = x.grown(n, -1);
            int before = many > 0 ? x.grown(n, 0) : 0;
            for (int i = 1; i < many; i++) {
                int next = x.grown(n, i);
                bits |= 1 << 4 * before + next;
                before = next;
            }
        }
        return bits;
    }

    private void scale(String text, int s, int t) {
        InflatedRows x = Due.with(text);
        is(text + ": s", x.whole(5), s);
        is(text + ": t", x.whole(6), t);
    }

    private void promise24Scale() {
        test(24, "SCALE: 0, 0, where nothing is long");
        scale("r1,1;p0,0,aaaa;xa;", 0, 0);
        scale("r1,1;p0,0,b;f0,0,a;xa;", 0, 0);
        // An IMAGE has 4 letters at most, so that nothing longer than 0 grows by more than 4.
        test(24, "SCALE: the greatest there can be, 4, 0 and 0, 4");
        scale("r1,1;p1,0,aaaa;xa;", 4, 0);
        scale("r0,1;p1,1,aaaa;xa;", 0, 4);
        test(24, "SCALE: of several the least s, then the least t");
        scale("r0,1;p1,1,aaa;xa;", 0, 3);
        scale("r0,4;p2,1,aaaa;xa;", 0, 2);
        scale("r0,9;p3,1,aaa;xa;", 0, 1);
        test(24, "SCALE: by R, with R R being M R and K");
        scale("r1,1;p0,1,ab;p1,0,a;xa;", 0, 1);
        scale("r2,1;p0,1,aab;p1,0,a;xa;", 0, 1);
        scale("r3,1;p0,1,aaab;p1,0,a;xa;", 0, 1);
        scale("r0,3;p0,1,bbb;p1,0,a;xa;", 0, 1);
        scale("r2,2;p0,1,aabb;p1,0,a;xa;", 0, 1);
        test(24, "SCALE: s and t both");
        // 1 and R: a of R becomes 1 and R times R: 2 R and 1; b of 1 becomes 1 and R.
        scale("r1,1;p0,1,aab;p1,0,ab;xa;", 1, 1);
        scale("r1,1;p1,1,aab;p0,1,ab;xa;", 1, 1);
        test(24, "SCALE: NONE: there is none");
        scale("r1,1;p1,0,a;p1,0,aa;xa;", NONE, NONE);
        scale("r1,1;p1,0,b;p0,0,a;xa;", NONE, NONE);
        scale("r1,1;p0,0,b;p1,0,b;xa;", NONE, NONE);
        test(24, "SCALE: number by number, though R is a whole number");
        // R R is 2 R and 3: R is 3. a of R becomes 9: 3 times R, but not in p and q by 3 and 0.
        scale("r2,3;p0,1,bbb;p3,0,bbb;xa;", NONE, NONE);
        test(24, "SCALE: each SORT counts, also one that never lies in THE ROW");
        scale("r1,1;p1,0,a;p1,0,bb;xa;", NONE, NONE);
        test(24, "SCALE: of four SORTS, the first and the last count");
        scale("r1,1;p1,0,ad;p2,0,bb;p0,0,c;p1,0,da;xa;", 2, 0);
        scale("r1,1;p1,0,a;p2,0,bb;p0,0,c;p1,0,da;xa;", NONE, NONE);
        scale("r1,1;p1,0,ad;p2,0,bb;p0,0,c;p1,0,d;xa;", NONE, NONE);
        scale("r1,1;p9,9,bcda;p9,9,abcd;p9,9,dcba;p9,9,dddd;xd;", 4, 0);
        test(24, "SCALE: by IMAGES of each KIND, a long one twice as long");
        scale("r1,1;f3,2,a;xa;", 1, 0);
        scale("r1,1;s3,2,a;xa;", 2, 0);
        scale("r1,1;l1,0,bb;p1,0,b;xa;", 1, 0);
        scale("r1,1;p2,0,b;l1,0,a;xa;", 1, 0);
        scale("r1,1;m3,2,aaa;xa;", 3, 0);
        scale("r1,1;l0,1,ba;l1,0,a;xa;", 0, 1);
    }

    private void promise24Refusals() {
        InflatedRows x = Due.with(KINDS);
        test(24, "BAD: what is 0 to 6");
        for (int what : new int[] {-1, 7, LEAST, MOST}) is("whole(" + what + ")", x.whole(what), BAD);
        test(24, "STATE, no BOOK, is ahead of BAD");
        is("whole(-1)", new InflatedRows().whole(-1), STATE);
        is("whole(7)", new InflatedRows().whole(7), STATE);
    }

    private void back(InflatedRows x, String letters, int ways, String first) {
        tell(x, 0, letters);
        is("ways back of " + letters, x.back(0, letters.length(), -1), ways);
        for (int i = 0; i <= letters.length(); i++) {
            int want = i < first.length() ? first.charAt(i) - 'a' : NONE;
            is("letter " + i + " of the first of " + letters, x.back(0, letters.length(), i), want);
        }
    }

    private void promise25() {
        InflatedRows x = Due.with("r1,1;p1,1,ab;p1,1,a;xa;");
        test(25, "one way: all letters of the first, NONE behind its last");
        back(x, "abaab", 1, "aba");
        back(x, "a", 1, "b");
        is("far behind it", x.back(0, 1, MOST), NONE);
        test(25, "none: no ways, NONE for each letter");
        back(x, "b", 0, "");
        back(x, "abb", 0, "");
        back(x, "ba", 0, "");
        test(25, "none: NONE for each letter, also where what lies behind the first has ways");
        for (String row : new String[] {"a", "aaaa", "aaaaa"}) {
            back(Due.with("r1,1;p1,1,ab;p1,1,a;x" + row + ";"), "baab", 0, "");
            back(Due.with("r1,1;p1,1,b;p1,1,b;p1,1,bb;p1,1,bbb;xc" + row + ";"), "cbb", 0, "");
            back(Due.with("r1,1;p1,1,bb;p1,1,b;p1,1,b;p1,1,b;xc" + row + ";"), "cabb", 0, "");
        }
        test(25, "none: also where the row begins well and ends within an IMAGE");
        InflatedRows y = Due.with("r1,1;p1,1,bab;f1,1,b;xa;");
        back(y, "ba", 0, "");
        back(y, "bbab", 1, "ba");
        test(25, "by IMAGES of each KIND");
        InflatedRows z = Due.with("r1,1;m1,1,bcd;s1,1,a;f1,1,a;l1,1,ad;xa;");
        back(z, "dcb", 1, "a");
        back(z, "bb", 1, "b");
        back(z, "b", 0, "");
        back(z, "cad", 1, "cd");
        test(25, "n ITEMS, 1 to 40, from 0 on");
        InflatedRows w = Due.with("r1,1;f1,1,a;f1,1,b;xa;");
        w.row(1, 2, 40);
        w.set(1, 39, 1);
        is("1", w.back(1, 1, -1), 1);
        is("40", w.back(1, 40, -1), 1);
        is("letter 39", w.back(1, 40, 39), 1);
        is("letter 38", w.back(1, 40, 38), 0);
        is("letter 40", w.back(1, 40, 40), NONE);
        is("letter 39 of 39", w.back(1, 39, 39), NONE);
    }

    private void promise25First() {
        test(25, "of several the first: letter by letter the lesser");
        InflatedRows x = Due.with("r1,1;p1,1,cc;p1,1,c;f1,1,a;xa;");
        back(x, "cc", 5, "a");
        back(x, "ccc", 12, "ab");
        InflatedRows y = Due.with("r1,1;p1,1,c;p1,1,cc;f1,1,a;xa;");
        back(y, "ccc", 12, "aaa");
        test(25, "the first, where the least letter leads nowhere");
        InflatedRows z = Due.with("r1,1;p1,1,c;p1,1,cd;f1,1,a;p1,1,b;xa;");
        back(z, "ccd", 2, "ab");
        back(z, "cd", 1, "b");
        InflatedRows w = Due.with("r1,1;p1,1,ab;p1,1,a;p1,1,bc;f1,1,d;xa;");
        back(w, "abc", 1, "bc");
        test(25, "the first is the lesser by its first letter, not the shorter one");
        InflatedRows v = Due.with("r1,1;p1,1,c;p1,1,ccc;p1,1,d;f1,1,d;xa;");
        back(v, "ccc", 2, "aaa");
    }

    private void promise25Most() {
        InflatedRows x = Due.with("r1,1;p1,1,a;p1,1,a;p1,1,aa;f1,1,d;xa;");
        // One a is 2 ways, two are 5, eight are 985; d parts what lies beside it.
        test(25, "fewer ways than 1000000 are told as they are");
        tell(x, 0, "aaaaaaaadaaaaaaaa");
        is("985 times 985", x.back(0, 17, -1), 970225);
        test(25, "1000000 ways are told as they are");
        tell(x, 0, "aadaadaadaadaadaadadadadadada");
        is("5 and 2 to the power of 6", x.back(0, 29, -1), 1000000);
        test(25, "1000000 at most: more ways than that");
        tell(x, 0, "aadaadaadaadaadaadadadadadadada");
        is("twice that", x.back(0, 31, -1), 1000000);
        x.row(1, 0, 40);
        is("of 40 letters", x.back(1, 40, -1), 1000000);
        InflatedRows y = Due.with("r1,1;p1,1,a;p1,1,a;p1,1,a;p1,1,a;xa;");
        y.row(1, 0, 40);
        is("4 to the power of 9", y.back(1, 9, -1), 262144);
        is("4 to the power of 10", y.back(1, 10, -1), 1000000);
        is("4 to the power of 16", y.back(1, 16, -1), 1000000);
        is("4 to the power of 32", y.back(1, 32, -1), 1000000);
        is("4 to the power of 40", y.back(1, 40, -1), 1000000);
        test(25, "the first of more than 1000000, up to its last letter");
        is("the last", y.back(1, 40, 39), 0);
        is("none behind it", y.back(1, 40, 40), NONE);
        test(25, "no ways, though parts of it have more than 1000000");
        y = Due.with("r1,1;p1,1,a;p1,1,a;p1,1,a;p1,1,a;xa;");
        y.row(1, 0, 40);
        y.set(1, 0, 1);
        is("ways", y.back(1, 40, -1), 0);
        is("the first", y.back(1, 40, 0), NONE);
    }

    private void promise25Refusals() {
        InflatedRows x = Due.with("r1,1;p1,1,ab;p1,1,a;xa;");
        tell(x, 0, "ab");
        x.row(1, 2, 40);
        test(25, "BAD: there is no such ROW");
        for (int row : new int[] {-1, 8, LEAST, MOST}) is("ROW " + row, x.back(row, 1, -1), BAD);
        test(25, "BAD: n is 1 to 40");
        for (int n : new int[] {0, 41, -1, LEAST, MOST}) is("n " + n, x.back(1, n, -1), BAD);
        test(25, "BAD: what below -1");
        for (int what : new int[] {-2, LEAST}) is("what " + what, x.back(1, 1, what), BAD);
        test(25, "NULL: the ROW is missing; behind BAD");
        is("ROW 7", x.back(7, 1, -1), NULL);
        is("status()", x.status(), 1);
        is("n 41", x.back(7, 41, -1), BAD);
        is("what -2", x.back(7, 1, -2), BAD);
        test(25, "PLACE: beyond the end of the ROW, by one");
        is("n 2", x.back(0, 2, -1), 1);
        is("n 3", x.back(0, 3, -1), PLACE);
        is("n 3, a letter", x.back(0, 3, 0), PLACE);
        is("status()", x.status(), 2);
        test(25, "PLACE: an ITEM that is no letter, too, at each place");
        for (int i = 0; i < 40; i += 13) {
            for (int v : new int[] {-1, 2, LEAST, MOST}) {
                x.set(1, i, v);
                is("ITEM " + i + " is " + v, x.back(1, 40, -1), PLACE);
                is("a letter", x.back(1, i + 1, 0), PLACE);
            }
            if (i > 0) is("what lies behind is free", x.back(1, i, -1), 1);
            x.set(1, i, 0);
        }
        test(25, "STATE, no BOOK, is ahead of BAD and of what is found");
        InflatedRows y = new InflatedRows();
        is("ROW 8", y.back(8, 1, -1), STATE);
        is("n 0", y.back(0, 0, -1), STATE);
        is("what -2", y.back(0, 1, -2), STATE);
        is("missing", y.back(0, 1, -1), STATE);
    }
}
