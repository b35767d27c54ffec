/** The edges of promises 6 to 9, and of TEXTS, FAULTS and ACTS. */
public final class EdgesOfTextsTest extends Edges {
    /** Each NUMBER has one figure, so that no place lies within a TOKEN. */
    private static final String TEXT = "r1,2;p3,4,ab;m5,6,ba;xaba;";
    private static final String FOUR = "r0,1;p0,0,a;m0,0,b;l0,0,c;f0,0,d;";

    private EdgesOfTextsTest() {
        super(6, 9);
    }

    public static void main(String[] args) {
        EdgesOfTextsTest edges = new EdgesOfTextsTest();
        edges.promise6();
        edges.promise7Empty();
        edges.promise7Law();
        edges.promise7Kinds();
        edges.promise7PartsOfSorts();
        edges.promise7Words();
        edges.promise7Sorts();
        edges.promise7Row();
        edges.promise7Tokens();
        edges.promise7End();
        edges.promise7First();
        edges.promise7NoSuchSort();
        edges.promise7InPlace();
        edges.promise7Stays();
        edges.promise8();
        edges.promise9();
        edges.promise9Each();
        edges.promise9Most();
        edges.promise9None();
        edges.end();
    }

    private void faulty(String text, int number, int place) {
        InflatedRows x = new InflatedRows();
        is(text + ": book()", Due.book(x, text), -1000100 - place);
        is(text + ": fault()", x.fault(), number);
        is(text + ": SORTS", x.count(1), 0);
    }

    private void fine(String text, int sorts) {
        InflatedRows x = new InflatedRows();
        is(text + ": book()", Due.book(x, text), sorts);
        is(text + ": fault()", x.fault(), 0);
        is(text + ": SORTS", x.count(1), sorts);
    }

    private void promise6() {
        InflatedRows x = new InflatedRows();
        test(6, "a byte is 0 to 255");
        is("feed(0)", x.feed(0), 1);
        is("feed(255)", x.feed(255), 2);
        test(6, "BAD: below 0, above 255; it does not come behind the tape");
        for (int letter : new int[] {-1, 256, LEAST, MOST}) is("feed(" + letter + ")", x.feed(letter), BAD);
        is("count(5)", x.count(5), 2);
        test(6, "how many it has, up to 120");
        for (int many = 3; many <= 120; many++) is("feed", x.feed('r'), many);
        is("count(5)", x.count(5), 120);
        test(6, "FULL: at most 120 bytes");
        is("byte 121", x.feed('r'), FULL);
        is("again", x.feed(0), FULL);
        is("count(5)", x.count(5), 120);
        test(6, "BAD is ahead of FULL");
        is("feed(-1)", x.feed(-1), BAD);
        is("feed(256)", x.feed(256), BAD);
        test(6, "all bytes of a full tape are read");
        InflatedRows y = new InflatedRows();
        Due.feed(y, "r1");
        for (int i = 2; i < 120; i++) y.feed('0');
        is("a run of 119 figures, at its first", y.book(), -1000101);
        is("fault()", y.fault(), 1);
        is("the tape has room again", y.feed('r'), 1);
    }

    private void promise7Empty() {
        InflatedRows x = new InflatedRows();
        test(7, "the tape is empty then, behind a BOOK that was read");
        is("book()", Due.book(x, TEXT), 2);
        is("count(5)", x.count(5), 0);
        is("feed", x.feed('r'), 1);
        test(7, "the tape is empty then, behind a FAULT");
        is("book()", x.book(), -1000101);
        is("count(5)", x.count(5), 0);
        is("the same text can come again", Due.book(x, TEXT), 2);
        test(7, "an empty tape has a FAULT at its end: place 0");
        is("book()", x.book(), -1000100);
        is("fault()", x.fault(), 1);
    }

    private void promise7Law() {
        test(7, "M is 0 to 3");
        for (int m = 0; m <= 3; m++) {
            is("M " + m, Due.with("r" + m + ",5;p0,0,a;xa;").whole(0), m);
            is("M 0" + m, Due.with("r0" + m + ",5;p0,0,a;xa;").whole(0), m);
        }
        for (String m : new String[] {"4", "9", "04", "10", "30", "99"}) faulty("r" + m + ",5;p0,0,a;xa;", 2, 1);
        test(7, "K is 1 to 9");
        for (int k = 1; k <= 9; k++) {
            is("K " + k, Due.with("r2," + k + ";p0,0,a;xa;").whole(1), k);
            is("K 0" + k, Due.with("r2,0" + k + ";p0,0,a;xa;").whole(1), k);
        }
        for (String k : new String[] {"0", "00", "10", "90", "99"}) faulty("r2," + k + ";p0,0,a;xa;", 2, 3);
        test(7, "a law is there first, and once");
        faulty("p0,0,a;xa;", 1, 0);
        faulty("r0,1;r0,1;p0,0,a;xa;", 1, 5);
    }

    private void promise7Kinds() {
        test(7, "KINDS: p, m, l, f, s, and no other letter");
        for (char letter = 'a'; letter <= 'z'; letter++) {
            int kind = "pmlfs".indexOf(letter) + 1;
            String text = "r0,1;" + letter + "0,0,a;xa;";
            if (kind > 0) is(text, Due.with(text).kind(0), kind);
            else faulty(text, 1, 5);
        }
        test(7, "no other letter where a second sort or the row may stand");
        for (char letter = 'a'; letter <= 'z'; letter++) {
            if ("pmlfsx".indexOf(letter) < 0) faulty("r0,1;p0,0,a;" + letter + "0,0,a;xa;", 1, 12);
        }
    }

    private void promise7PartsOfSorts() {
        test(7, "P is 0 to 9, of a SORT of each KIND");
        for (int p = 0; p <= 9; p++) {
            is("P " + p, Due.with("r0,1;p" + p + ",5,a;xa;").sort(0, 0), p);
            is("P 0" + p, Due.with("r0,1;l0" + p + ",5,a;xa;").sort(0, 0), p);
        }
        for (String kind : new String[] {"p", "m", "l", "f", "s"}) faulty("r0,1;" + kind + "10,0,a;xa;", 2, 6);
        faulty("r0,1;p99,0,a;xa;", 2, 6);
        test(7, "Q is 0 to 9, of a SORT of each KIND");
        for (int q = 0; q <= 9; q++) {
            is("Q " + q, Due.with("r0,1;p5," + q + ",a;xa;").sort(0, 1), q);
            is("Q 0" + q, Due.with("r0,1;l5,0" + q + ",a;xa;").sort(0, 1), q);
        }
        for (String kind : new String[] {"p", "m", "l", "f", "s"}) faulty("r0,1;" + kind + "0,10,a;xa;", 2, 8);
        faulty("r0,1;p0,99,a;xa;", 2, 8);
        test(7, "a sort that breaks off ahead of a letter that could begin the next one: FAULT 1 at that letter");
        faulty("r0,1;p0xa;", 1, 7);
        faulty("r0,1;p0,0xa;", 1, 9);
        faulty("r0,1;p0p0,0,a;xa;", 1, 7);
        faulty("r0,1;p0,0,axa;", 1, 11);
        faulty("r0,1;p0,0,a;pxa;", 1, 13);
        faulty("r0,1;p0,0,a;p0,xa;", 1, 15);
        test(7, "P and Q of a later SORT, too");
        faulty("r0,1;p0,0,a;p10,0,a;xa;", 2, 13);
        faulty("r0,1;p0,0,a;p0,10,a;xa;", 2, 15);
    }

    private void promise7Words() {
        test(7, "a WORD has 1 to 4 letters");
        for (String word : new String[] {"a", "ab", "aba", "abab"}) {
            same(word, wordOf(Due.with("r0,1;p0,0," + word + ";p0,0,a;xa;"), 0), word);
        }
        faulty("r0,1;p0,0,;xa;", 1, 10);
        faulty("r0,1;p0,0;xa;", 1, 9);
        test(7, "a fifth letter of a WORD: FAULT 1");
        faulty("r0,1;p0,0,aaaaa;xa;", 1, 14);
        faulty("r0,1;p0,0,aaaaaaaa;xa;", 1, 14);
        faulty("r0,1;f0,0,aaaae;xa;", 1, 14);
        test(7, "letters of a WORD are a to d");
        same("abcd", wordOf(Due.with("r0,1;p0,0,abcd;p0,0,a;p0,0,a;p0,0,a;xa;"), 0), "abcd");
        for (char letter = 'e'; letter <= 'z'; letter++) {
            faulty("r0,1;p0,0," + letter + ";xa;", 1, 10);
            faulty("r0,1;p0,0,aa" + letter + ";xa;", 1, 12);
        }
        faulty("r0,1;p0,0,0;xa;", 1, 10);
        faulty("r0,1;p0,0,a0;xa;", 1, 11);
    }

    private void promise7Sorts() {
        test(7, "there is one SORT at least");
        fine("r0,1;p0,0,a;xa;", 1);
        faulty("r0,1;xa;", 1, 5);
        test(7, "SORTS 0 .. 3: four are not too many, in the order in which they come");
        fine(FOUR + "xa;", 4);
        for (int sort = 0; sort < 4; sort++) is("kind", Due.with(FOUR + "xa;").kind(sort), sort + 1);
        test(7, "a sort more than there is room for: FAULT 3, at its letter");
        for (String kind : new String[] {"p", "m", "l", "f", "s"}) faulty(FOUR + kind + "0,0,a;xa;", 3, 33);
        faulty(FOUR + "p", 3, 33);
        faulty(FOUR + "p99,99,eee", 3, 33);
        test(7, "what is no sort is none too many: FAULT 1 behind four");
        faulty(FOUR + "q0,0,a;xa;", 1, 33);
        faulty(FOUR + "r0,1;", 1, 33);
        faulty(FOUR + "0", 1, 33);
        faulty(FOUR + ";", 1, 33);
    }

    private void promise7Row() {
        test(7, "the row has 1 to 8 letters");
        for (int n = 1; n <= 8; n++) {
            String letters = "abaababa".substring(0, n);
            same(letters, Due.theRow(Due.with("r0,1;p0,0,a;p0,0,a;x" + letters + ";")), letters);
        }
        faulty("r0,1;p0,0,a;x;", 1, 13);
        test(7, "a ninth letter of the row: FAULT 1");
        faulty("r0,1;p0,0,a;xaaaaaaaaa;", 1, 21);
        faulty("r0,1;p0,0,a;xaaaaaaaae;", 1, 21);
        test(7, "letters of the row are a to d");
        same("abcd", Due.theRow(Due.with(FOUR + "xdcba;")), "dcba");
        for (char letter = 'e'; letter <= 'z'; letter++) faulty("r0,1;p0,0,a;xa" + letter + ";", 1, 14);
        test(7, "there is one row, and nothing behind it");
        for (int letter = 0; letter < 256; letter++) faulty(TEXT + (char) letter, 1, TEXT.length());
    }

    private void promise7Tokens() {
        test(7, "NUMBERS have 2 figures at most: a run of three or more is none, FAULT 1 at its first");
        for (String run : new String[] {"000", "001", "111", "999", "0001", "00000000001"}) {
            faulty("r" + run + ",1;p0,0,a;xa;", 1, 1);
            faulty("r0," + run + ";p0,0,a;xa;", 1, 3);
            faulty("r0,1;p" + run + ",0,a;xa;", 1, 6);
            faulty("r0,1;p0," + run + ",a;xa;", 1, 8);
        }
        test(7, "a run of figures that ends the tape");
        faulty("r000", 1, 1);
        faulty("r00", 1, 3);
        faulty("r44", 2, 1);
        test(7, "a NUMBER that cannot stand there: FAULT 1 at its first");
        faulty("00", 1, 0);
        faulty("r0,1;99", 1, 5);
        faulty("r0,1;p0,0,a99;xa;", 1, 11);
        test(7, "figures are 0 to 9, not the signs beside them");
        faulty("r/,1;p0,0,a;xa;", 1, 1);
        faulty("r:,1;p0,0,a;xa;", 1, 1);
        faulty("r0/,1;p0,0,a;xa;", 1, 2);
        faulty("r0:,1;p0,0,a;xa;", 1, 2);
        test(7, "what is no TOKEN, at each place: FAULT 1 there");
        for (int at = 0; at < TEXT.length(); at++) {
            for (int letter : new int[] {0, ' ', '`', '{', 'A', 200, 255}) {
                faulty(TEXT.substring(0, at) + (char) letter + TEXT.substring(at + 1), 1, at);
            }
        }
        test(7, "a TOKEN that cannot stand there, at each place: FAULT 1 there");
        for (int at = 0; at < TEXT.length(); at++) faulty(TEXT.substring(0, at) + "z" + TEXT.substring(at + 1), 1, at);
        test(7, "a sign too many, ahead of each place: FAULT 1 there");
        for (int at = 0; at < TEXT.length(); at++) {
            boolean ends = TEXT.charAt(at) == ';' || TEXT.charAt(at) == ',';
            faulty(TEXT.substring(0, at) + (ends ? "r" : ",") + TEXT.substring(at), 1, at);
        }
    }

    private void promise7End() {
        test(7, "the end where there must be more: FAULT 1, at how many bytes there are");
        for (int n = 0; n < TEXT.length(); n++) faulty(TEXT.substring(0, n), 1, n);
        fine(TEXT, 2);
        faulty(FOUR, 1, 33);
        faulty("r03", 1, 3);
    }

    private void promise7First() {
        test(7, "the first TOKEN that has a FAULT");
        faulty("r4,0;q", 2, 1);
        faulty("r0,0;q", 2, 3);
        faulty("r0,1;q99", 1, 5);
        faulty("r0,1;p99,99,e;", 2, 6);
        faulty("r0,1;p0,0,b;p0,0,e;xa;", 1, 17);
        faulty(FOUR.replace("d;", "dd;") + "p99", 3, 34);
        faulty("r0,1;p0,0,d;p10,0,a;xa;", 2, 13);
        test(7, "of one TOKEN the least: 1 ahead of 2");
        faulty("r444", 1, 1);
        faulty("r0,000", 1, 3);
        faulty("r0,1;p999,", 1, 6);
        test(7, "of one TOKEN the least: 1 ahead of 4, at the end");
        faulty("r0,1;p0,0,b;xa", 1, 14);
        faulty("r0,1;p0,0,b;", 1, 12);
    }

    private void promise7NoSuchSort() {
        test(7, "a letter of a SORT that there is not in the end: FAULT 4 at the end, of a WORD");
        faulty("r0,1;p0,0,b;xa;", 4, 15);
        faulty("r0,1;p0,0,d;xa;", 4, 15);
        faulty("r0,1;p0,0,aaab;xa;", 4, 18);
        faulty("r0,1;p0,0,baaa;xa;", 4, 18);
        faulty("r0,1;p0,0,a;p0,0,c;xa;", 4, 22);
        faulty("r0,1;p0,0,c;p0,0,a;xa;", 4, 22);
        faulty("r0,1;p0,0,a;p0,0,a;p0,0,d;xa;", 4, 29);
        test(7, "FAULT 4, of a WORD of each KIND");
        for (String kind : new String[] {"p", "m", "l", "f", "s"}) faulty("r0,1;" + kind + "0,0,b;xa;", 4, 15);
        test(7, "FAULT 4, of the row");
        faulty("r0,1;p0,0,a;xb;", 4, 15);
        faulty("r0,1;p0,0,a;xaaaaaaab;", 4, 22);
        faulty("r0,1;p0,0,a;xbaaaaaaa;", 4, 22);
        faulty("r0,1;p0,0,a;p0,0,b;xc;", 4, 22);
        faulty("r0,1;p0,0,a;p0,0,b;p0,0,c;xd;", 4, 29);
        test(7, "in the end: SORTS that come later are there");
        fine("r0,1;p0,0,b;p0,0,a;xb;", 2);
        fine("r0,1;p0,0,bcd;p0,0,a;p0,0,a;p0,0,a;xd;", 4);
        test(7, "what lies behind the row is ahead of FAULT 4");
        faulty("r0,1;p0,0,b;xa;,", 1, 15);
    }

    private void promise7InPlace() {
        InflatedRows x = Due.with("r3,9;m9,8,abcd;l7,6,a;f5,4,b;s3,2,c;xabcdabcd;");
        tell(x, 4, "ab");
        x.image(0);
        x.length(0, 0, 1);
        x.inflate();
        test(7, "a BOOK that is read stands in place of the one before: nothing of that is left");
        is("book()", Due.book(x, "r0,1;p0,0,b;p1,1,a;xb;"), 2);
        is("M", x.whole(0), 0);
        is("K", x.whole(1), 1);
        is("SORTS", x.count(1), 2);
        is("kind(0)", x.kind(0), 1);
        is("P", x.sort(0, 0), 0);
        is("Q", x.sort(0, 1), 0);
        same("WORD", wordOf(x, 0), "b");
        is("letters of all WORDS", x.count(3), 2);
        is("kind(2)", x.kind(2), BAD);
        same("THE ROW", Due.theRow(x), "b");
        test(7, "no ACT can be undone then");
        is("count(4)", x.count(4), 0);
        is("undo()", x.undo(), STATE);
        test(7, "ROWS stay");
        is("count(0)", x.count(0), 1);
        is("begin(4, 2)", x.begin(4, 2), 1);
        same("ROW 4", Due.theRow(x), "ab");
        test(7, "IMAGES stay");
        is("restore(0)", x.restore(0), 1);
        is("SORTS", x.count(1), 4);
        same("THE ROW", Due.theRow(x), "abcdabcd");
        is("P", x.sort(0, 0), 9);
    }

    private static InflatedRows changed() {
        InflatedRows x = Due.with("r3,9;m9,8,ab;l7,6,a;xab;");
        tell(x, 4, "ab");
        x.image(1);
        x.length(0, 0, 1);
        x.begin(4, 1);
        x.ask(1, 0);
        x.as(1, 2);
        return x;
    }

    private void promise7Stays() {
        String[] texts = {"", "r4", "r0,1;p0,0,a;xaa", "r0,1;p0,0,a;xab;", FOUR + "p"};
        InflatedRows y = changed();
        Due.book(y, "r");
        String due = Autopsy.of(y);
        for (String text : texts) {
            test(7, "a FAULT: all but the tape, and what fault() tells, stays: " + text);
            InflatedRows x = changed();
            is("book()", Due.book(x, text) < -1000099 ? 1 : 0, 1);
            is("status()", x.status(), 3);
            Due.book(x, "r");
            same("all that can be seen", Autopsy.of(x), due);
        }
    }

    private void promise8() {
        InflatedRows x = new InflatedRows();
        test(8, "0 before one, also where a text had none");
        is("new", x.fault(), 0);
        Due.book(x, TEXT);
        is("behind a BOOK", x.fault(), 0);
        test(8, "the latest one, of each number");
        Due.book(x, "r4");
        is("2", x.fault(), 2);
        Due.book(x, FOUR + "p");
        is("3", x.fault(), 3);
        Due.book(x, "r0,1;p0,0,a;xb;");
        is("4", x.fault(), 4);
        Due.book(x, "");
        is("1", x.fault(), 1);
        test(8, "a text without a FAULT leaves it, and so do other calls");
        Due.book(x, "r4");
        Due.book(x, TEXT);
        is("behind a BOOK", x.fault(), 2);
        x.image(0);
        x.restore(0);
        x.feed(256);
        x.row(0, 0, -1);
        is("behind others", x.fault(), 2);
        is("asked again", x.fault(), 2);
    }

    private void promise9() {
        InflatedRows x = Due.with(TEXT);
        x.length(0, 0, 7);
        x.length(0, 0, 8);
        x.length(0, 1, 9);
        test(9, "how many can be undone yet; the latest first, down to none");
        is("undo()", x.undo(), 2);
        is("Q", x.sort(0, 1), 4);
        is("P", x.sort(0, 0), 8);
        is("undo()", x.undo(), 1);
        is("P", x.sort(0, 0), 7);
        is("undo()", x.undo(), 0);
        is("P", x.sort(0, 0), 3);
        is("count(4)", x.count(4), 0);
        test(9, "an ACT behind one that was undone stands in its place");
        x.length(0, 0, 1);
        x.undo();
        x.length(0, 1, 2);
        is("count(4)", x.count(4), 1);
        is("undo()", x.undo(), 0);
        is("P", x.sort(0, 0), 3);
        is("Q", x.sort(0, 1), 4);
        test(9, "an ACT by which nothing becomes another is one, too");
        x.length(0, 0, 3);
        x.root(0, 1);
        tell(x, 0, "aba");
        x.begin(0, 3);
        x.word(0, 0, 2);
        is("count(4)", x.count(4), 4);
        Due.book(x, "r0,1;f1,1,a;xa;");
        x.inflate();
        is("inflate", x.count(4), 1);
        is("undo()", x.undo(), 0);
    }

    private void promise9Each() {
        InflatedRows x = Due.with(TEXT);
        tell(x, 0, "bbba");
        test(9, "each kind of ACT is undone alone: WORD, P, Q, KIND, M, K, THE ROW told, THE ROW inflated");
        x.word(1, 0, 4);
        x.length(1, 0, 0);
        x.length(1, 1, 0);
        x.become(1, 5);
        x.root(0, 3);
        x.root(1, 9);
        x.begin(0, 4);
        x.inflate();
        same("THE ROW", Due.theRow(x), "bbbbbbab");
        is("undo()", x.undo(), 7);
        same("THE ROW as told", Due.theRow(x), "bbba");
        is("undo()", x.undo(), 6);
        same("THE ROW", Due.theRow(x), "aba");
        is("K as told", x.whole(1), 9);
        is("undo()", x.undo(), 5);
        is("K", x.whole(1), 2);
        is("M as told", x.whole(0), 3);
        is("undo()", x.undo(), 4);
        is("M", x.whole(0), 1);
        is("KIND as told", x.kind(1), 5);
        is("undo()", x.undo(), 3);
        is("KIND", x.kind(1), 2);
        is("Q as told", x.sort(1, 1), 0);
        is("undo()", x.undo(), 2);
        is("Q", x.sort(1, 1), 6);
        is("P as told", x.sort(1, 0), 0);
        is("undo()", x.undo(), 1);
        is("P", x.sort(1, 0), 5);
        same("WORD as told", wordOf(x, 1), "bbba");
        is("undo()", x.undo(), 0);
        same("WORD", wordOf(x, 1), "ba");
        is("undo()", x.undo(), STATE);
    }

    private void promise9Most() {
        InflatedRows x = Due.with("r0,1;p0,0,a;xa;");
        test(9, "24 ACTS are kept");
        for (int i = 1; i <= 24; i++) {
            x.length(0, 0, i % 10);
            is("count(4)", x.count(4), i);
        }
        for (int i = 23; i >= 0; i--) {
            is("undo()", x.undo(), i);
            is("P", x.sort(0, 0), i % 10);
        }
        is("undo()", x.undo(), STATE);
        test(9, "of more than 24 the oldest is forgotten: with 25 the first one stands");
        for (int i = 1; i <= 25; i++) x.length(0, 0, i % 10);
        is("count(4)", x.count(4), 24);
        for (int i = 24; i >= 1; i--) {
            is("undo()", x.undo(), i - 1);
            is("P", x.sort(0, 0), i % 10);
        }
        is("undo()", x.undo(), STATE);
        is("P", x.sort(0, 0), 1);
        InflatedRows y = Due.with("r0,1;p0,0,a;xa;");
        test(9, "of many more than 24 only the latest are kept, also where some were undone between");
        for (int i = 1; i <= 70; i++) y.length(0, 0, i % 10);
        for (int i = 0; i < 5; i++) y.undo();
        for (int i = 66; i <= 75; i++) y.length(0, 0, i % 10);
        is("count(4)", y.count(4), 24);
        for (int i = 74; i >= 51; i--) {
            is("undo()", y.undo(), i - 51);
            is("P", y.sort(0, 0), i % 10);
        }
        is("undo()", y.undo(), STATE);
    }

    private void promise9None() {
        test(9, "STATE: there is none");
        InflatedRows x = new InflatedRows();
        is("no BOOK", x.undo(), STATE);
        Due.book(x, TEXT);
        is("a BOOK, no ACT", x.undo(), STATE);
        x.length(0, 0, 1);
        Due.book(x, TEXT);
        is("another BOOK", x.undo(), STATE);
        x.image(0);
        x.length(0, 0, 1);
        x.restore(0);
        is("an IMAGE", x.undo(), STATE);
        x.length(0, 0, 1);
        x.undo();
        is("undone", x.undo(), STATE);
        is("P", x.sort(0, 0), 3);
        test(9, "what is refused is no ACT");
        x.length(0, 0, 10);
        x.become(0, 1);
        x.root(0, 4);
        x.begin(0, 1);
        x.word(0, 0, 1);
        Due.book(x, "r0,1;p0,0,aaa;xaaa;");
        x.inflate();
        is("count(4)", x.count(4), 0);
        is("undo()", x.undo(), STATE);
    }
}
