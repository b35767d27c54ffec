/** Promises 26 to 32: what is foretold, and IMAGES. */
public final class ForetoldTest {
    private static final int BAD = -1000001, STATE = -1000002, NULL = -1000011, PLACE = -1000012;
    private static final Due due = new Due();

    public static void main(String[] args) {
        promise26Kinds();
        promise26Letters();
        promise26Full();
        promise26Refusals();
        promise27();
        promise28();
        promise29();
        promise30();
        promise30DrawByDraw();
        promise31();
        promise32();
        due.end("ForetoldTest");
    }

    private static int kinds(int... kinds) {
        int bits = 0;
        for (int kind : kinds) bits |= 1 << kind;
        return bits;
    }

    private static void promise26Kinds() {
        InflatedRows x = Due.with("r1,1;p1,1,ab;p1,1,ba;xa;");
        Due.row(x, 0, 0, 1, 1, 0);
        due.is("a b, once: plain, long", x.who(0, 0, 0, 1, 0, 2), kinds(1, 3));
        due.is("a b b a, twice: plain, long", x.who(0, 0, 0, 2, 0, 4), kinds(1, 3));
        due.is("b told: so by all but a split one", x.who(1, 99, 0, 1, 0, 2), kinds(1, 2, 3, 4, 5));
        Due.row(x, 1, 1, 0);
        due.is("b a, once: mirrored", x.who(0, -7, 0, 1, 1, 2), kinds(2));
        Due.row(x, 2, 0, 0, 0, 0);
        due.is("a a a a, twice: split", x.who(0, 0, 0, 2, 2, 4), kinds(5));
        due.is("a, not at all: all", x.who(0, 0, 0, 0, 2, 1), kinds(1, 2, 3, 4, 5));
        due.is("a a, not at all: none, too few letters", x.who(0, 0, 0, 0, 2, 2), 0);
        due.is("nothing changes", x.kind(0), 1);
        due.is("no ACT", x.count(4), 0);
    }

    private static void promise26Letters() {
        InflatedRows x = Due.with("r1,1;p1,1,ab;p1,1,ba;p1,1,ab;xabc;");
        Due.row(x, 0, 0, 1, 1, 0, 0, 1);
        due.is("at place 0 of THE ROW: a, c", x.who(0, 0, 1, 1, 0, 6), kinds(0, 2));
        due.is("at place 1 of THE ROW: b", x.who(2, 1, 1, 1, 0, 6), kinds(1));
        due.is("at place 2 of THE ROW: any, it is not told", x.who(0, 2, 1, 1, 0, 4), kinds(0, 1, 2));
        due.is("at place 0 of the WORD of a: a", x.who(0, 0, 2, 1, 0, 6), kinds(0));
        due.is("at place 1 of the WORD of b: any, by 3", x.who(1, 1, 2, 1, 0, 3), kinds(0, 1, 2));
        due.is("at place 1 of the WORD of c: b", x.who(2, 1, 2, 1, 0, 6), kinds(1));
        due.row("nothing changes", x, "abc");
        due.is("nothing changes", x.sort(0, 10), 0);
        x.become(0, 2);
        Due.row(x, 1, 1, 2);
        due.is("the WORD's place, not the IMAGE's", x.who(0, 0, 2, 1, 1, 2), kinds(2));
        InflatedRows y = Due.with("r1,1;f1,1,aa;f1,1,b;xa;");
        Due.row(y, 0, 0);
        due.is("a fixed one's WORD says nothing", y.who(0, 1, 2, 3, 0, 1), kinds(0, 1));
        Due.row(x, 2, 7, -1);
        due.is("what is no letter is told by none", x.who(0, 0, 1, 1, 2, 2), 0);
    }

    private static void promise26Full() {
        InflatedRows x = Due.with("r1,1;p1,1,aaaa;p1,1,b;xa;");
        Due.row(x, 0, 0);
        due.is("more than 300: it is not so", x.who(0, 0, 0, 6, 0, 1), kinds(4, 5));
        due.is("a letter of THE ROW", x.who(0, 0, 1, 6, 0, 1), 0);
        Due.row(x, 1, 1);
        due.is("another letter of THE ROW", x.who(0, 0, 1, 6, 1, 1), kinds(1));
        x.row(2, 0, 40);
        due.is("40 ITEMS", x.who(0, 0, 0, 6, 2, 40), kinds(5));
    }

    private static void promise26Refusals() {
        InflatedRows x = new InflatedRows();
        Due.row(x, 0, 0, 1);
        due.is("no BOOK", x.who(0, 0, 1, 1, 0, 1), BAD);
        Due.book(x, "r1,1;p1,1,ab;p1,1,bab;xaba;");
        for (int which = 0; which <= 2; which++) {
            due.is("SORT -1", x.who(-1, 0, which, 1, 0, 1), BAD);
            due.is("SORT 2", x.who(2, 0, which, 1, 0, 1), BAD);
            due.is("n -1", x.who(0, 0, which, -1, 0, 1), BAD);
            due.is("n 7", x.who(0, 0, which, 7, 0, 1), BAD);
            due.is("ROW -1", x.who(0, 0, which, 1, -1, 1), BAD);
            due.is("ROW 8", x.who(0, 0, which, 1, 8, 1), BAD);
            due.is("m 0", x.who(0, 0, which, 1, 0, 0), BAD);
            due.is("m 41", x.who(0, 0, which, 1, 0, 41), BAD);
            due.is("NULL", x.who(0, 0, which, 1, 1, 1), NULL);
            due.is("PLACE", x.who(0, 0, which, 1, 0, 3), PLACE);
        }
        due.is("status()", x.status(), 2);
        due.is("which -1", x.who(0, 0, -1, 1, 0, 1), BAD);
        due.is("which 3", x.who(0, 0, 3, 1, 0, 1), BAD);
        due.is("x -1 of THE ROW", x.who(0, -1, 1, 1, 0, 1), BAD);
        due.is("x 3 of THE ROW", x.who(0, 3, 1, 1, 0, 1), BAD);
        due.is("x -1 of a WORD", x.who(0, -1, 2, 1, 0, 1), BAD);
        due.is("x 2 of a WORD", x.who(0, 2, 2, 1, 0, 1), BAD);
        due.is("x 2 of another WORD", x.who(1, 2, 2, 1, 0, 2), kinds(0, 1));
        due.is("status()", x.status(), 0);
    }

    private static void promise27() {
        due.is("no BOOK", new InflatedRows().quiet(), STATE);
        // All pairs of a and b are there whatever the letters are: a b b a, b a a b.
        due.is("all places", Due.with("r1,1;p1,1,ab;p1,1,ba;xab;").quiet(), 3);
        due.is("there is no other letter", Due.with("r1,1;p1,1,aa;xaaa;").quiet(), 0);
        due.is("there is no other letter, nor a PAIR", Due.with("r1,1;f1,1,a;xa;").quiet(), 0);
        // Fixed ones: PAIRS are those of THE ROW.
        due.is("a a a a: none", Due.with("r1,1;f1,1,a;f1,1,b;xaaaa;").quiet(), 0);
        due.is("one letter has no PAIRS", Due.with("r1,1;f1,1,a;f1,1,b;xa;").quiet(), 1);
        // A b at either end and an a for either b leave aa, ab, ba; elsewhere bb would come.
        due.is("a a b a a b a a", Due.with("r1,1;f1,1,a;f1,1,b;xaabaabaa;").quiet(), 0b10100101);
        InflatedRows x = Due.with("r1,1;f1,1,a;f1,1,b;xaabaabaa;");
        x.quiet();
        due.row("nothing changes", x, "aabaabaa");
    }

    private static void promise28() {
        due.is("no BOOK is ahead of BAD", new InflatedRows().sets(100, 9), STATE);
        InflatedRows x = Due.with("r1,1;p2,9,a;l3,9,b;p4,9,c;f0,9,d;xabca;");
        // 2, 6, 4, 2
        sets(x, 0, 1, 0, 0);
        sets(x, 2, 2, 0, 0b1001);
        sets(x, 4, 2, 0, 0b1101);
        sets(x, 6, 3, 0, 0b1111);
        sets(x, 14, 1, 0b1111, 0b1111);
        sets(x, 12, 2, 0b0110, 0b1111);
        sets(x, 1, 0, 0, 0);
        sets(x, 99, 0, 0, 0);
        InflatedRows y = Due.with("r1,1;p2,9,a;f0,9,b;xab;");
        sets(y, 0, 2, 0, 0b10);
        sets(y, 2, 2, 0b01, 0b11);
        due.is("v -1", x.sets(-1, 0), BAD);
        due.is("v 100", x.sets(100, 0), BAD);
        due.is("what -1", x.sets(0, -1), BAD);
        due.is("what 3", x.sets(0, 3), BAD);
        InflatedRows z = Due.with("r1,1;l9,9,a;xaaaaaaaa;");
        sets(z, 90, 56, 0, 0xFF);
        sets(z, 18, 8, 0, 0xFF);
    }

    private static void sets(InflatedRows x, int v, int many, int inAll, int inAny) {
        due.is("sets(" + v + ", 0)", x.sets(v, 0), many);
        due.is("sets(" + v + ", 1)", x.sets(v, 1), inAll);
        due.is("sets(" + v + ", 2)", x.sets(v, 2), inAny);
    }

    private static void lost(InflatedRows x, int sort, int v, int p, long above, long below) {
        String call = "lost(" + sort + ", " + v + ", " + p + ", ";
        due.is(call + "0)", x.lost(sort, v, p, 0), above);
        due.is(call + "1)", x.lost(sort, v, p, 1), below);
    }

    private static void promise29() {
        due.is("no BOOK", new InflatedRows().lost(0, 0, 0, 0), BAD);
        InflatedRows x = Due.with("r1,1;p1,1,aab;m1,1,a;s1,1,b;xabc;");
        // a brings two letters a and one b, b one a, c two c.
        lost(x, 0, 0, 3, 9, 100);
        lost(x, 0, 1, 3, 3, 10);
        lost(x, 0, 2, 3, 51, 100);
        lost(x, 0, 3, 3, 1, 1);
        lost(x, 1, 0, 3, 3, 10);
        lost(x, 2, 1, 4, 2, 5);
        lost(x, 2, 2, 4, 1, 1);
        lost(x, 0, 0, 0, 0, 1);
        lost(x, 0, 2, 0, 0, 1);
        lost(x, 0, 3, 0, 1, 1);
        lost(x, 0, 0, 10, 1, 1);
        lost(x, 0, 40, 5, 1, 1);
        for (int what = 0; what <= 1; what++) {
            due.is("SORT 3", x.lost(3, 0, 0, what), BAD);
            due.is("SORT -1", x.lost(-1, 0, 0, what), BAD);
            due.is("v 41", x.lost(0, 41, 0, what), BAD);
            due.is("v -1", x.lost(0, -1, 0, what), BAD);
            due.is("p 11", x.lost(0, 0, 11, what), BAD);
            due.is("p -1", x.lost(0, 0, -1, what), BAD);
        }
        due.is("what 2", x.lost(0, 0, 0, 2), BAD);
        due.is("what -1", x.lost(0, 0, 0, -1), BAD);
        InflatedRows y = Due.with("r1,1;p1,1,aaaa;xaaaaaaaa;");
        lost(y, 0, 31, 1, 56953279, 100000000);
        lost(y, 0, 32, 1, 1, 1);
        lost(y, 0, 0, 1, 1, 100000000);
    }

    private static void promise30() {
        due.is("no BOOK is ahead of BAD", new InflatedRows().drawn(31, 0, 9), STATE);
        InflatedRows x = Due.with("r1,1;f1,1,a;f1,1,b;xaaaa;");
        due.is("no year: none", x.drawn(0, 1, 0), 0);
        due.is("no year: all 16", x.drawn(0, 1, 1), 65535);
        due.is("n 31", x.drawn(31, 1, 0), BAD);
        due.is("n -1", x.drawn(-1, 1, 0), BAD);
        due.is("SEED 0", x.drawn(1, 0, 0), BAD);
        due.is("SEED 1000000", x.drawn(1, 1000000, 0), BAD);
        due.is("what 2", x.drawn(1, 1, 2), BAD);
        due.is("what -1", x.drawn(1, 1, -1), BAD);
        // X is 16807: place 16807 by 4 leaves 3; 1050 by 2 leaves 0: a a a a.
        due.is("one year, how many", x.drawn(1, 1, 0), 1);
        due.is("one year, in all", x.drawn(1, 1, 1), 1);
        // SEED 2: X is 33614: place 2; 2100 leaves 0. SEED 3: 50421: place 1; 3151 leaves 1: a b a a.
        due.is("SEED 3, how many", x.drawn(1, 3, 0), 3);
        due.is("SEED 3, in all", x.drawn(1, 3, 1), 0b10011);
        due.row("nothing changes", x, "aaaa");
        due.is("no ACT", x.count(4), 0);
    }

    /** The draws done by begin, one by one, with each letter that became another kept for the next year. */
    private static void promise30DrawByDraw() {
        InflatedRows x = Due.with("r1,1;f1,1,a;f1,1,b;m1,1,cb;s1,1,d;xabcabc;");
        int[] letters = {0, 1, 2, 0, 1, 2};
        InflatedRows y = Due.with("r1,1;f1,1,a;f1,1,b;m1,1,cb;s1,1,d;xabcabc;");
        long draw = 999999;
        int together = 0;
        int inAll = 65535;
        for (int year = 1; year <= 30; year++) {
            draw = draw * 16807 % 2147483647;
            letters[(int) (draw % 6)] = (int) (draw / 16 % 4);
            Due.row(y, 0, letters);
            y.begin(0, 6);
            together += y.whole(4);
            inAll &= y.whole(3);
            due.is("years " + year + ", how many", x.drawn(year, 999999, 0), together);
            due.is("years " + year + ", in all", x.drawn(year, 999999, 1), inAll);
        }
    }

    private static void promise31() {
        InflatedRows x = new InflatedRows();
        due.is("image(-1)", x.image(-1), BAD);
        due.is("BAD is ahead of STATE", x.image(2), BAD);
        due.is("no BOOK", x.image(0), STATE);
        Due.book(x, "r1,1;p1,1,ab;p1,1,a;xa;");
        due.is("image(0)", x.image(0), 1);
        due.is("image(1)", x.image(1), 1);
        due.is("it is no ACT", x.count(4), 0);
        x.length(0, 0, 7);
        due.is("image(0) anew", x.image(0), 1);
        due.is("ACTS stay", x.count(4), 1);
        x.length(0, 0, 8);
        x.restore(0);
        due.is("the later one", x.sort(0, 0), 7);
        x.restore(1);
        due.is("the other one", x.sort(0, 0), 1);
    }

    private static void promise32() {
        InflatedRows x = new InflatedRows();
        due.is("restore(-1)", x.restore(-1), BAD);
        due.is("restore(2)", x.restore(2), BAD);
        due.is("none was kept", x.restore(0), STATE);
        Due.book(x, "r1,2;p1,3,ab;m4,5,a;xab;");
        x.image(1);
        due.is("the other was not kept", x.restore(0), STATE);
        Due.row(x, 0, 1);
        x.word(0, 0, 1);
        x.length(1, 1, 9);
        x.become(1, 4);
        x.root(0, 3);
        x.root(1, 3);
        x.begin(0, 1);
        due.is("restore(1)", x.restore(1), 1);
        due.is("WORD", x.sort(0, 2), 2);
        due.is("Q", x.sort(1, 1), 5);
        due.is("KIND", x.kind(1), 2);
        due.is("M", x.whole(0), 1);
        due.is("K", x.whole(1), 2);
        due.row("THE ROW", x, "ab");
        due.is("no ACT can be undone", x.count(4), 0);
        due.is("undo()", x.undo(), STATE);
        x.length(0, 0, 9);
        due.is("it is kept yet", x.restore(1), 1);
        due.is("P", x.sort(0, 0), 1);
        due.is("ROWS stay", x.count(0), 1);
    }
}
