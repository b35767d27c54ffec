/** The edges of promises 26 to 32, and of what is FORETOLD: QUIET, SETS, LOST, YEARS; and of IMAGES of the BOOK. */
public final class EdgesOfForetoldTest extends Edges {
    private EdgesOfForetoldTest() {
        super(26, 32);
    }

    public static void main(String[] args) {
        EdgesOfForetoldTest edges = new EdgesOfForetoldTest();
        edges.promise26Kinds();
        edges.promise26Row();
        edges.promise26Word();
        edges.promise26Full();
        edges.promise26Items();
        edges.promise26Refusals();
        edges.promise26Places();
        edges.promise26InTime();
        edges.promise27();
        edges.promise28();
        edges.promise28Refusals();
        edges.promise29();
        edges.promise29Refusals();
        edges.promise30();
        edges.promise30Draws();
        edges.promise30Refusals();
        edges.promise31();
        edges.promise32();
        edges.promise32Refusals();
        edges.end();
    }

    private void promise26Kinds() {
        InflatedRows x = Due.with("r1,1;p1,1,aba;p1,1,a;xa;");
        test(26, "KINDS are bits 1 to 5, the KIND that it is, too");
        tell(x, 0, "a");
        is("GROWN 0 times: all", x.who(0, 0, 0, 0, 0, 1), bits(1, 2, 3, 4, 5));
        test(26, "KINDS: plain, mirrored, long by a WORD that reads backward as forward");
        tell(x, 0, "aba");
        is("GROWN once", x.who(0, 0, 0, 1, 0, 3), bits(1, 2, 3));
        test(26, "KINDS: mirrored alone, fixed alone, split alone");
        InflatedRows y = Due.with("r1,1;p1,1,cb;p1,1,a;p1,1,c;xac;");
        tell(y, 0, "bc");
        is("mirrored", y.who(0, 0, 0, 1, 0, 2), bits(2));
        tell(y, 0, "ac");
        is("fixed", y.who(0, 0, 0, 1, 0, 2), bits(4));
        tell(y, 0, "aac");
        is("split", y.who(0, 0, 0, 1, 0, 3), bits(5));
        tell(y, 0, "cbc");
        is("plain, long", y.who(0, 0, 0, 1, 0, 3), bits(1, 3));
        test(26, "KINDS: of the last SORT, too; of one that is not there: all or none");
        is("c", y.who(2, 0, 0, 1, 0, 3), bits(1, 2, 3, 4, 5));
        is("b, which is not in THE ROW yet", y.who(1, 0, 0, 1, 0, 3), bits(1, 2, 3, 4, 5));
        tell(y, 0, "bb");
        is("none", y.who(1, 0, 0, 1, 0, 2), 0);
        test(26, "x is free for KINDS");
        tell(y, 0, "bc");
        for (int place : new int[] {-1, 99, LEAST, MOST}) is("x " + place, y.who(0, place, 0, 1, 0, 2), bits(2));
    }

    private void promise26Row() {
        InflatedRows x = Due.with("r1,1;p1,1,ab;p1,1,ba;p1,1,ab;xabca;");
        tell(x, 0, "abbaabab");
        test(26, "letters at a place of THE ROW: the first and the last, the letter that is there, too");
        is("place 0", x.who(0, 0, 1, 1, 0, 8), bits(0, 2));
        is("place 1", x.who(0, 1, 1, 1, 0, 8), bits(1));
        is("place 3", x.who(0, 3, 1, 1, 0, 8), bits(0, 2));
        test(26, "letters of SORTS that there are, no others");
        is("a place behind what is told: all three", x.who(0, 3, 1, 1, 0, 6), bits(0, 1, 2));
        InflatedRows y = Due.with("r1,1;f1,1,a;f1,1,a;f1,1,a;f1,1,a;xab;");
        tell(y, 0, "a");
        is("all four", y.who(0, 1, 1, 6, 0, 1), bits(0, 1, 2, 3));
        InflatedRows z = Due.with("r1,1;f1,1,a;xaa;");
        tell(z, 0, "a");
        is("the only one", z.who(0, 1, 1, 6, 0, 1), bits(0));
        test(26, "none: bits 0");
        tell(y, 0, "b");
        is("place 1, another at place 0", y.who(0, 1, 1, 0, 0, 1), 0);
        test(26, "the SORT is free for a place of THE ROW, if there is such a one");
        for (int sort = 0; sort < 3; sort++) is("SORT " + sort, x.who(sort, 1, 1, 1, 0, 8), bits(1));
    }

    private void promise26Word() {
        InflatedRows x = Due.with("r1,1;p1,1,abac;p1,1,b;m1,1,ab;xacb;");
        tell(x, 0, "abacbab");
        test(26, "letters at a place of a WORD: the first and the last");
        is("place 0 of a", x.who(0, 0, 2, 1, 0, 7), bits(0));
        is("place 3 of a", x.who(0, 3, 2, 1, 0, 7), bits(2));
        test(26, "a place of the WORD, not of the IMAGE of a mirrored one");
        is("place 0 of c", x.who(2, 0, 2, 1, 0, 7), bits(0));
        is("place 1 of c", x.who(2, 1, 2, 1, 0, 7), bits(1));
        test(26, "a WORD of a fixed one, of a split one tells nothing: all letters or none");
        InflatedRows y = Due.with("r1,1;f1,1,aa;s1,1,b;xab;");
        tell(y, 0, "abb");
        is("fixed", y.who(0, 1, 2, 1, 0, 3), bits(0, 1));
        is("split", y.who(1, 0, 2, 1, 0, 3), bits(0, 1));
        tell(y, 0, "ba");
        is("none", y.who(0, 0, 2, 1, 0, 2), 0);
        test(26, "GROWN 0 times: a WORD tells nothing");
        tell(x, 0, "acb");
        is("all", x.who(0, 0, 2, 0, 0, 3), bits(0, 1, 2));
    }

    private void promise26Full() {
        test(26, "FULL: it is not so, for KINDS");
        InflatedRows x = Due.with("r1,1;p1,1,aaaa;p1,1,b;xa;");
        tell(x, 0, "a");
        is("1024 letters, GROWN 5 times", x.who(0, 0, 0, 5, 0, 1), bits(4, 5));
        is("256 letters, GROWN 4 times", x.who(0, 0, 0, 4, 0, 1), bits(1, 2, 3, 4, 5));
        test(26, "FULL: it is not so, for letters of THE ROW");
        is("a", x.who(0, 0, 1, 5, 0, 1), 0);
        tell(x, 0, "b");
        is("b", x.who(0, 0, 1, 5, 0, 1), bits(1));
        test(26, "FULL: it is not so, for letters of a WORD");
        InflatedRows y = Due.with("r1,1;p1,1,aa;p1,1,aaaa;xabb;");
        tell(y, 0, "a");
        is("2 to the power of 6, and 256 times 2: too many", y.who(1, 0, 2, 6, 0, 1), 0);
        test(26, "FULL, 301 letters by one KIND, 300 by others");
        // In three steps a is 48 letters, b 12, c 3, d 1, and 2 to the power of 3 as a split one.
        InflatedRows z = Due.with("r1,1;p1,0,bbbb;p1,0,cccc;p1,0,ddd;p1,0,d;xaaaaaab;");
        tell(z, 0, "d");
        is("KINDS of d", z.who(3, 0, 0, 3, 0, 1), bits(1, 2, 3, 4));
        is("letters at place 6", z.who(0, 6, 1, 3, 0, 1), bits(1, 2, 3));
        test(26, "FULL: nothing is refused by it: the BOOK itself is FULL");
        InflatedRows w = Due.with("r1,1;p1,1,aaaa;xaaaaaaaa;");
        w.row(0, 0, 40);
        is("grown", w.grown(6, -1), FULL);
        is("fixed, but 8 letters", w.who(0, 0, 0, 6, 0, 8), bits(4));
        is("status()", w.status(), 0);
    }

    private void promise26Items() {
        InflatedRows x = Due.with("r1,1;s1,1,a;f1,1,b;xab;");
        test(26, "m ITEMS, 1 to 40");
        x.row(0, 0, 40);
        is("1", x.who(1, 0, 0, 0, 0, 1), bits(1, 2, 3, 4, 5));
        InflatedRows y = Due.with("r1,1;f1,1,a;xaaaaa;");
        y.row(0, 0, 40);
        is("40 of 5 times 8", y.who(0, 0, 0, 3, 0, 40), bits(5));
        is("40 of 5 times 4", y.who(0, 0, 0, 2, 0, 40), 0);
        test(26, "the last of 40 counts");
        InflatedRows z = Due.with("r1,1;f1,1,a;p1,1,b;xaaaaa;");
        z.row(0, 0, 40);
        z.set(0, 39, 1);
        is("40", z.who(0, 0, 0, 3, 0, 40), 0);
        is("39", z.who(0, 0, 0, 3, 0, 39), bits(5));
        test(26, "from 0 on: letters GROWN behind the m are free, fewer than m are not so");
        tell(x, 1, "aab");
        is("3 of 3", x.who(0, 0, 0, 1, 1, 3), bits(5));
        is("2 of 3", x.who(0, 0, 0, 1, 1, 2), bits(5));
        is("1 of 2 or 3", x.who(0, 0, 0, 1, 1, 1), bits(1, 2, 3, 4, 5));
        tell(x, 1, "aabb");
        is("4 of 3", x.who(0, 0, 0, 1, 1, 4), 0);
        test(26, "an ITEM that is no letter is told by none: 0, and no FINDING");
        x.row(2, 2, 2);
        for (int v : new int[] {-1, 2, 99, NONE, LEAST, MOST}) {
            x.set(2, 1, v);
            is("ITEM " + v, x.who(0, 0, 0, 1, 2, 2), 0);
            is("ITEM " + v, x.who(0, 0, 1, 1, 2, 2), 0);
            is("ITEM " + v, x.who(0, 0, 2, 1, 2, 2), 0);
            is("status()", x.status(), 0);
        }
        is("behind the m that count it is free", x.who(1, 0, 0, 1, 2, 1), bits(1, 2, 3, 4, 5));
    }

    private void promise26Refusals() {
        InflatedRows x = Due.with("r1,1;p1,1,ab;p1,1,bab;xaba;");
        tell(x, 0, "a");
        test(26, "BAD: there is no such SORT, always");
        for (int which = 0; which <= 2; which++) {
            for (int sort : new int[] {-1, 2, LEAST, MOST}) is("SORT " + sort, x.who(sort, 0, which, 1, 0, 1), BAD);
        }
        test(26, "BAD: which is 0 to 2");
        for (int which : new int[] {-1, 3, LEAST, MOST}) is("which " + which, x.who(0, 0, which, 1, 0, 1), BAD);
        test(26, "BAD: n is 0 to 6");
        for (int which = 0; which <= 2; which++) {
            for (int n : new int[] {-1, 7, LEAST, MOST}) is("n " + n, x.who(0, 0, which, n, 0, 1), BAD);
            is("n 0", x.who(0, 0, which, 0, 0, 1) > 0 ? 1 : 0, 1);
            is("n 6", x.who(0, 0, which, 6, 0, 1) >= 0 ? 1 : 0, 1);
        }
        test(26, "BAD: there is no such ROW");
        for (int which = 0; which <= 2; which++) {
            for (int row : new int[] {-1, 8, LEAST, MOST}) is("ROW " + row, x.who(0, 0, which, 1, row, 1), BAD);
        }
        test(26, "BAD: m is 1 to 40");
        for (int which = 0; which <= 2; which++) {
            for (int m : new int[] {0, 41, -1, LEAST, MOST}) is("m " + m, x.who(0, 0, which, 1, 0, m), BAD);
        }
    }

    private void promise26Places() {
        InflatedRows x = Due.with("r1,1;p1,1,ab;p1,1,bab;xabab;");
        tell(x, 0, "a");
        test(26, "BAD: there is no such place of THE ROW");
        for (int place : new int[] {-1, 4, 8, LEAST, MOST}) is("x " + place, x.who(0, place, 1, 1, 0, 1), BAD);
        is("the last place", x.who(0, 3, 1, 1, 0, 1), bits(0, 1));
        test(26, "BAD: there is no such place of the WORD of that SORT");
        for (int place : new int[] {-1, 2, 4, LEAST, MOST}) is("x " + place, x.who(0, place, 2, 1, 0, 1), BAD);
        is("x 2 of b", x.who(1, 2, 2, 1, 0, 1), bits(0, 1));
        is("x 3 of b", x.who(1, 3, 2, 1, 0, 1), BAD);
    }

    private void promise26InTime() {
        InflatedRows x = Due.with("r1,1;p1,1,ab;p1,1,bab;xabab;");
        tell(x, 0, "ab");
        x.row(1, 0, 0);
        for (int which = 0; which <= 2; which++) {
            test(26, "NULL: the ROW is missing, which " + which);
            is("ROW 7", x.who(0, 0, which, 1, 7, 1), NULL);
            is("status()", x.status(), 1);
            test(26, "PLACE: beyond the end of the ROW, by one, which " + which);
            is("m 2", x.who(0, 0, which, 1, 0, 2) > 0 ? 1 : 0, 1);
            is("m 3", x.who(0, 0, which, 1, 0, 3), PLACE);
            is("a ROW of none", x.who(0, 0, which, 1, 1, 1), PLACE);
            is("status()", x.status(), 2);
        }
        test(26, "of several the first: BAD, NULL, PLACE");
        is("SORT and NULL", x.who(2, 0, 0, 1, 7, 1), BAD);
        is("x and NULL", x.who(0, 4, 1, 1, 7, 1), BAD);
        is("x and PLACE", x.who(0, 2, 2, 1, 0, 3), BAD);
        is("which and NULL", x.who(0, 0, 3, 1, 7, 1), BAD);
        is("n and NULL", x.who(0, 0, 0, 7, 7, 1), BAD);
        is("m and NULL", x.who(0, 0, 0, 1, 7, 41), BAD);
        is("NULL and PLACE", x.who(0, 0, 0, 1, 7, 40), NULL);
    }

    private void promise27() {
        test(27, "STATE: no BOOK");
        is("quiet()", new InflatedRows().quiet(), STATE);
        test(27, "no other letter: no place");
        is("one SORT", Due.with("r1,1;p1,1,aa;xaaaaaaaa;").quiet(), 0);
        is("one SORT, one letter", Due.with("r1,1;f1,1,a;xa;").quiet(), 0);
        test(27, "one letter alone: PAIRS are none by another, too");
        is("fixed ones", Due.with("r1,1;f1,1,a;f1,1,b;xa;").quiet(), 1);
        is("the other brings a PAIR", Due.with("r1,1;f1,1,a;s1,1,b;xa;").quiet(), 0);
        is("the other loses one", Due.with("r1,1;f1,1,a;s1,1,b;xb;").quiet(), 0);
        test(27, "all 8 places");
        is("two SORTS that become all", Due.with("r1,1;p1,1,ab;p1,1,ba;xabababab;").quiet(), 255);
        test(27, "some of the places, the first and the last");
        is("a a b a a b a a", Due.with("r1,1;f1,1,a;f1,1,b;xaabaabaa;").quiet(), 0b10100101);
        test(27, "some other letter: only one of several would do");
        // By b there would be b b, by c there would be c c; by d there is nothing.
        is("the last SORT alone", Due.with("r1,1;f1,1,a;s1,1,b;s1,1,c;f1,1,d;xa;").quiet(), 1);
        is("none of them", Due.with("r1,1;f1,1,a;s1,1,b;s1,1,c;s1,1,d;xa;").quiet(), 0);
        test(27, "PAIRS as they are: none less, none more, of all that ever lie side by side");
        // a and b both become c: by b for a at place 0 only what lies there first is another one.
        is("a c", Due.with("r1,1;p1,1,c;p1,1,c;f1,1,c;xac;").quiet(), 0);
        is("c c, alone", Due.with("r1,1;p1,1,cc;p1,1,cc;f1,1,c;xa;").quiet(), 1);
    }

    private void sets(InflatedRows x, int v, int many, int inAll, int inAny) {
        is("sets(" + v + ", 0)", x.sets(v, 0), many);
        is("sets(" + v + ", 1)", x.sets(v, 1), inAll);
        is("sets(" + v + ", 2)", x.sets(v, 2), inAny);
    }

    private void promise28() {
        InflatedRows x = Due.with("r1,1;p2,9,a;l3,9,b;p4,9,c;f0,9,d;xabca;");
        test(28, "the set of none counts, too, for 0");
        sets(x, 0, 1, 0, 0);
        test(28, "P of letters together, of a long SORT twice P; Q is free");
        sets(x, 2, 2, 0, bits(0, 3));
        sets(x, 6, 3, 0, bits(0, 1, 2, 3));
        sets(x, 12, 2, bits(1, 2), bits(0, 1, 2, 3));
        test(28, "all letters together; in all, in any");
        sets(x, 14, 1, bits(0, 1, 2, 3), bits(0, 1, 2, 3));
        test(28, "there are none: 0, 0, 0");
        sets(x, 1, 0, 0, 0);
        sets(x, 15, 0, 0, 0);
        sets(x, 99, 0, 0, 0);
        test(28, "letters of no length are in some of the sets, not in all");
        sets(Due.with("r1,1;f0,0,a;xaaaaaaaa;"), 0, 256, 0, 255);
        InflatedRows y = Due.with("r1,1;p2,9,a;f0,9,b;xab;");
        sets(y, 0, 2, 0, bits(1));
        sets(y, 2, 2, bits(0), bits(0, 1));
        test(28, "one letter alone");
        sets(Due.with("r1,1;s5,0,a;xa;"), 5, 1, 1, 1);
        test(28, "v is 0 to 99: 99 is reached, by 8 letters");
        // 18 five times, 9 once, 0 twice
        sets(Due.with("r1,1;l9,0,a;p9,0,b;f0,0,c;xaaaaabcc;"), 99, 4, 0b00111111, 255);
        sets(Due.with("r1,1;l9,0,a;xaaaaaaaa;"), 90, 56, 0, 255);
    }

    private void promise28Refusals() {
        InflatedRows x = Due.with("r1,1;l9,9,a;xaaaaaaaa;");
        test(28, "BAD: v is 0 to 99");
        for (int v : new int[] {-1, 100, 108, LEAST, MOST}) is("v " + v, x.sets(v, 0), BAD);
        test(28, "BAD: what is 0 to 2");
        for (int what : new int[] {-1, 3, LEAST, MOST}) is("what " + what, x.sets(0, what), BAD);
        test(28, "STATE, no BOOK, is ahead of BAD");
        is("sets(0, 0)", new InflatedRows().sets(0, 0), STATE);
        is("v 100", new InflatedRows().sets(100, 0), STATE);
        is("what 3", new InflatedRows().sets(0, 3), STATE);
    }

    private void lost(InflatedRows x, int sort, int v, int p, long above, long below) {
        String call = "lost(" + sort + ", " + v + ", " + p + ", ";
        is(call + "0)", x.lost(sort, v, p, 0), above);
        is(call + "1)", x.lost(sort, v, p, 1), below);
    }

    private void promise29() {
        InflatedRows x = Due.with("r1,1;p1,1,aab;m1,1,a;s1,1,b;xabc;");
        // a brings two a and a b, b brings an a, c brings two c.
        test(29, "v or fewer: just as many, one fewer");
        lost(x, 0, 3, 3, 1, 1);
        lost(x, 0, 2, 3, 51, 100);
        lost(x, 0, 1, 3, 3, 10);
        test(29, "v is 0: none at all");
        lost(x, 0, 0, 3, 9, 100);
        lost(x, 2, 0, 3, 3, 10);
        test(29, "v is 40: more than there can be: 1 by 1");
        lost(x, 0, 40, 5, 1, 1);
        test(29, "p is 0: nothing is lost; 0 is 0 by 1");
        lost(x, 0, 2, 0, 0, 1);
        lost(x, 0, 3, 0, 1, 1);
        test(29, "p is 10: all is lost");
        lost(x, 0, 0, 10, 1, 1);
        test(29, "in lowest terms");
        lost(x, 2, 1, 4, 2, 5);
        lost(x, 2, 1, 5, 1, 2);
        test(29, "letters that bring none of a SORT: 1 by 1");
        lost(Due.with("r1,1;f1,1,a;f1,1,b;xaaaa;"), 1, 0, 3, 1, 1);
        test(29, "GROWN once, by the IMAGE of each KIND; each letter is lost apart");
        InflatedRows y = Due.with("r1,1;m1,1,ab;l1,1,bb;f1,1,a;s1,1,b;xabcd;");
        lost(y, 0, 0, 1, 1, 10);
        lost(y, 1, 0, 1, 1, 100);
        lost(y, 1, 2, 1, 19, 100);
        lost(y, 2, 0, 9, 9, 10);
        lost(y, 3, 1, 9, 9, 10);
        test(29, "8 letters of 4 each: 32 at most, one by 100000000");
        InflatedRows z = Due.with("r1,1;p1,1,aaaa;xaaaaaaaa;");
        lost(z, 0, 0, 1, 1, 100000000);
        lost(z, 0, 31, 9, 99999999, 100000000);
        lost(z, 0, 32, 9, 1, 1);
        lost(z, 0, 3, 1, 1, 100000000);
        lost(z, 0, 4, 1, 73, 100000000);
    }

    private void promise29Refusals() {
        InflatedRows x = Due.with("r1,1;p1,1,aab;m1,1,a;xab;");
        for (int what = 0; what <= 1; what++) {
            test(29, "BAD: there is no such SORT, what " + what);
            for (int sort : new int[] {-1, 2, LEAST, MOST}) is("SORT " + sort, x.lost(sort, 0, 0, what), BAD);
            test(29, "BAD: v is 0 to 40, what " + what);
            for (int v : new int[] {-1, 41, LEAST, MOST}) is("v " + v, x.lost(0, v, 0, what), BAD);
            test(29, "BAD: p is 0 to 10, what " + what);
            for (int p : new int[] {-1, 11, LEAST, MOST}) is("p " + p, x.lost(0, 0, p, what), BAD);
        }
        test(29, "BAD: what is 0 or 1");
        for (int what : new int[] {-1, 2, LEAST, MOST}) is("what " + what, x.lost(0, 0, 0, what), BAD);
    }

    private void promise30() {
        InflatedRows x = Due.with("r1,1;f1,1,a;f1,1,b;xaaaa;");
        test(30, "0 times: none together; all 16 at first");
        is("together", x.drawn(0, 1, 0), 0);
        is("in all", x.drawn(0, 1, 1), 65535);
        is("in all, the last SEED", x.drawn(0, 999999, 1), 65535);
        test(30, "ahead of each X becomes another: the SEED itself draws nothing");
        // 16807 leaves 3 by 4, 1050 leaves 0 by 2: a a a a.
        is("SEED 1, together", x.drawn(1, 1, 0), 1);
        is("SEED 1, in all", x.drawn(1, 1, 1), pairs("aa"));
        test(30, "X by 16 is cut, then the rest by how many SORTS there are");
        // 50421 leaves 1 by 4; by 16 it is 3151 and a rest: b: a b a a.
        is("SEED 3, together", x.drawn(1, 3, 0), 3);
        is("SEED 3, in all", x.drawn(1, 3, 1), pairs("aa", "ab", "ba"));
        test(30, "one letter alone becomes another, too");
        // SEED 1 tells a, SEED 3 tells b, as above; of b there are b b.
        InflatedRows z = Due.with("r1,1;f1,1,a;s1,1,b;xa;");
        is("SEED 1, together", z.drawn(1, 1, 0), 0);
        is("SEED 1, in all", z.drawn(1, 1, 1), 0);
        is("SEED 3, together", z.drawn(1, 3, 0), 1);
        is("SEED 3, in all", z.drawn(1, 3, 1), pairs("bb"));
        test(30, "one letter, one SORT: nothing can become another");
        InflatedRows y = Due.with("r1,1;s1,1,a;xa;");
        is("30 times", y.drawn(30, 999999, 0), 30);
        is("in all", y.drawn(30, 999999, 1), 1);
    }

    /** The draws are made here, by remainders alone; PAIRS of fixed SORTS are those of the row itself. */
    private void promise30Draws() {
        InflatedRows x = Due.with("r1,1;f1,1,a;f1,1,b;f1,1,a;xaaaaaaa;");
        for (int seed : new int[] {1, 2, 127773, 999998, 999999}) {
            test(30, "1 to 30 times, each behind the one before, by SEED " + seed);
            int[] letters = new int[7];
            long draw = seed;
            int together = 0;
            int inAll = 65535;
            for (int n = 1; n <= 30; n++) {
                draw = draw * 16807L % 2147483647L;
                letters[(int) (draw % 7)] = (int) (draw / 16 % 3);
                int pairs = 0;
                for (int i = 0; i < 6; i++) pairs |= 1 << 4 * letters[i] + letters[i + 1];
                together += Integer.bitCount(pairs);
                inAll &= pairs;
                is("together, " + n, x.drawn(n, seed, 0), together);
                is("in all, " + n, x.drawn(n, seed, 1), inAll);
            }
        }
        same("THE ROW stays", Due.theRow(x), "aaaaaaa");
    }

    private void promise30Refusals() {
        InflatedRows x = Due.with("r1,1;f1,1,a;f1,1,b;xab;");
        test(30, "BAD: n is 0 to 30");
        for (int n : new int[] {-1, 31, LEAST, MOST}) is("n " + n, x.drawn(n, 1, 0), BAD);
        test(30, "BAD: a SEED is 1 to 999999");
        for (int seed : new int[] {0, 1000000, -1, LEAST, MOST}) is("SEED " + seed, x.drawn(1, seed, 0), BAD);
        test(30, "BAD: what is 0 or 1");
        for (int what : new int[] {-1, 2, LEAST, MOST}) is("what " + what, x.drawn(1, 1, what), BAD);
        test(30, "STATE, no BOOK, is ahead of BAD");
        InflatedRows y = new InflatedRows();
        is("drawn(0, 1, 0)", y.drawn(0, 1, 0), STATE);
        is("n 31", y.drawn(31, 1, 0), STATE);
        is("SEED 0", y.drawn(1, 0, 0), STATE);
        is("what 2", y.drawn(1, 1, 2), STATE);
    }

    private void promise31() {
        InflatedRows x = new InflatedRows();
        test(31, "STATE: no BOOK; nothing is kept");
        is("image(0)", x.image(0), STATE);
        is("image(1)", x.image(1), STATE);
        is("restore(0)", x.restore(0), STATE);
        test(31, "BAD: IMAGES are 0 and 1; ahead of STATE");
        for (int k : new int[] {-1, 2, LEAST, MOST}) is("no BOOK, image(" + k + ")", x.image(k), BAD);
        Due.book(x, "r1,1;p1,1,ab;p1,1,a;xa;");
        for (int k : new int[] {-1, 2, LEAST, MOST}) is("image(" + k + ")", x.image(k), BAD);
        test(31, "IMAGES 0 and 1 are kept apart");
        is("image(0)", x.image(0), 1);
        is("the other was not kept", x.restore(1), STATE);
        x.length(0, 0, 7);
        is("image(1)", x.image(1), 1);
        test(31, "it is no ACT, and leaves ACTS as they are");
        is("count(4)", x.count(4), 1);
        is("undo()", x.undo(), 0);
        is("P", x.sort(0, 0), 1);
        test(31, "what is done behind it does not change what is kept");
        x.length(0, 0, 9);
        x.restore(1);
        is("IMAGE 1", x.sort(0, 0), 7);
        x.restore(0);
        is("IMAGE 0", x.sort(0, 0), 1);
        test(31, "an IMAGE is kept anew in place of the one before");
        x.length(0, 0, 8);
        is("image(0)", x.image(0), 1);
        x.length(0, 0, 9);
        x.restore(0);
        is("P", x.sort(0, 0), 8);
        x.restore(1);
        is("the other stays", x.sort(0, 0), 7);
    }

    private void promise32() {
        InflatedRows x = Due.with("r1,2;p1,3,ab;m4,5,a;xab;");
        tell(x, 0, "b");
        x.image(1);
        x.word(0, 0, 1);
        x.length(1, 0, 9);
        x.length(1, 1, 8);
        x.become(1, 4);
        x.root(0, 3);
        x.root(1, 3);
        x.begin(0, 1);
        test(32, "all of the BOOK is as the IMAGE kept it");
        is("restore(1)", x.restore(1), 1);
        same("WORD", wordOf(x, 0), "ab");
        is("P", x.sort(1, 0), 4);
        is("Q", x.sort(1, 1), 5);
        is("KIND", x.kind(1), 2);
        is("M", x.whole(0), 1);
        is("K", x.whole(1), 2);
        same("THE ROW", Due.theRow(x), "ab");
        test(32, "no ACT can be undone then");
        is("count(4)", x.count(4), 0);
        is("undo()", x.undo(), STATE);
        test(32, "it is no ACT itself, and ACTS behind it are counted from 0");
        x.length(0, 0, 2);
        is("count(4)", x.count(4), 1);
        is("undo()", x.undo(), 0);
        is("P", x.sort(0, 0), 1);
        test(32, "an IMAGE can be brought back again and again");
        x.length(0, 0, 9);
        is("restore(1)", x.restore(1), 1);
        is("P", x.sort(0, 0), 1);
        test(32, "an IMAGE of a BOOK of other SORTS, ROWS stay");
        Due.book(x, "r0,1;f1,1,a;f1,1,a;f1,1,a;f1,1,a;xabcd;");
        is("restore(1)", x.restore(1), 1);
        is("SORTS", x.count(1), 2);
        is("letters of all WORDS", x.count(3), 3);
        is("kind(2)", x.kind(2), BAD);
        is("ROWS", x.count(0), 1);
    }

    private void promise32Refusals() {
        InflatedRows x = new InflatedRows();
        test(32, "BAD: IMAGES are 0 and 1; ahead of STATE");
        for (int k : new int[] {-1, 2, LEAST, MOST}) is("restore(" + k + ")", x.restore(k), BAD);
        test(32, "STATE: none was kept, without a BOOK and with one");
        is("no BOOK", x.restore(0), STATE);
        Due.book(x, "r1,1;p1,1,a;xa;");
        is("0", x.restore(0), STATE);
        is("1", x.restore(1), STATE);
        x.length(0, 0, 3);
        x.image(1);
        is("0, where 1 was kept", x.restore(0), STATE);
        is("ACTS stay", x.count(4), 1);
    }
}
