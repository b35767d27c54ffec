/** Promises 1 to 5. */
public final class RowsTest {
    private static final int BAD = -1000001, NULL = -1000011, PLACE = -1000012, SIZE = -1000014, STORE = -1000015;
    private static final Due due = new Due();

    public static void main(String[] args) {
        promise1();
        promise2();
        promise3();
        promise4();
        promise4Refusals();
        promise5();
        due.end("RowsTest");
    }

    private static void promise1() {
        InflatedRows x = new InflatedRows();
        for (int what = 0; what <= 5; what++) due.is("new: count(" + what + ")", x.count(what), 0);
        due.is("new: letter(0)", x.letter(0), -1000002);
        due.is("new: fault()", x.fault(), 0);
        due.is("new: status()", x.status(), 0);
        due.is("new: trace(0)", x.trace(0), -1000000);
        for (int row = 0; row < 8; row++) due.is("new: drop(" + row + ")", x.drop(row), NULL);
    }

    private static void promise2() {
        InflatedRows x = new InflatedRows();
        due.is("row(0, 0, 0)", x.row(0, 0, 0), 0);
        due.is("row(7, 2, 40)", x.row(7, 2, 40), 40);
        due.is("count(0)", x.count(0), 2);
        due.is("row(-1, 0, 1)", x.row(-1, 0, 1), BAD);
        due.is("row(8, 0, 1)", x.row(8, 0, 1), BAD);
        due.is("row(0, -1, 1)", x.row(0, -1, 1), BAD);
        due.is("row(0, 3, 1)", x.row(0, 3, 1), BAD);
        due.is("row(0, 0, 41)", x.row(0, 0, 41), BAD);
        due.is("row(0, 3, -1): BAD is ahead of SIZE", x.row(0, 3, -1), BAD);
        due.is("row(8, 0, -1)", x.row(8, 0, -1), BAD);
        x.set(7, 39, 5);
        due.is("row(7, 0, -1)", x.row(7, 0, -1), SIZE);
        due.is("row(7, 0, least)", x.row(7, 0, Integer.MIN_VALUE), SIZE);
        due.is("a refused row leaves what is there", x.set(7, 39, 70000), 70000);
        due.is("row(7, 2, 3) in place of what is there", x.row(7, 2, 3), 3);
        due.is("it is shorter", x.set(7, 3, 1), PLACE);
        due.is("count(0)", x.count(0), 2);
        itemsAreNoughtAtFirst();
    }

    private static void itemsAreNoughtAtFirst() {
        InflatedRows x = Due.with("r0,1;p1,0,b;p1,0,a;xa;");
        Due.row(x, 0, 1, 1, 1, 1);
        x.row(0, 2, 4);
        due.is("begin(0, 4)", x.begin(0, 4), 1);
        due.row("a new ROW has 0 everywhere", x, "aaaa");
    }

    private static void promise3() {
        InflatedRows x = new InflatedRows();
        x.row(0, 0, 2);
        x.row(1, 1, 2);
        x.row(2, 2, 2);
        due.is("byte 127", x.set(0, 0, 127), 127);
        due.is("byte 128", x.set(0, 0, 128), -128);
        due.is("byte 256", x.set(0, 1, 256), 0);
        due.is("byte -129", x.set(0, 1, -129), 127);
        due.is("short 32767", x.set(1, 0, 32767), 32767);
        due.is("short 32768", x.set(1, 1, 32768), -32768);
        due.is("short 65536", x.set(1, 1, 65536), 0);
        due.is("int, the most", x.set(2, 1, Integer.MAX_VALUE), Integer.MAX_VALUE);
        due.is("int, the least", x.set(2, 1, Integer.MIN_VALUE), Integer.MIN_VALUE);
        due.is("set(-1, 0, 0)", x.set(-1, 0, 0), BAD);
        due.is("set(8, 0, 0)", x.set(8, 0, 0), BAD);
        due.is("set(3, 0, 0)", x.set(3, 0, 0), NULL);
        due.is("set(3, -1, 0): NULL is ahead of PLACE", x.set(3, -1, 0), NULL);
        due.is("set(0, -1, 0)", x.set(0, -1, 0), PLACE);
        due.is("set(0, 2, 0)", x.set(0, 2, 0), PLACE);
        x.row(4, 2, 0);
        due.is("set in a ROW of none", x.set(4, 0, 0), PLACE);
    }

    private static void promise4() {
        InflatedRows x = Due.with("r0,1;p1,0,a;p1,0,a;p1,0,a;p1,0,a;xa;");
        Due.row(x, 0, 0, 1, 2, 3, 0, 1);
        due.is("copy onto itself, to the right", x.copy(0, 0, 0, 1, 4), 4);
        x.begin(0, 6);
        due.row("as they were ahead, to the right", x, "aabcdb");
        due.is("copy onto itself, to the left", x.copy(0, 1, 0, 0, 4), 4);
        x.begin(0, 6);
        due.row("as they were ahead, to the left", x, "abcddb");
        x.row(1, 2, 3);
        due.is("copy to another one", x.copy(0, 2, 1, 1, 2), 2);
        x.begin(1, 3);
        due.row("the other one", x, "acd");
        x.begin(0, 6);
        due.row("the first one stays", x, "abcddb");
    }

    private static void promise4Refusals() {
        InflatedRows x = new InflatedRows();
        x.row(0, 0, 5);
        x.row(1, 0, 3);
        x.row(2, 1, 3);
        due.is("copy(-1, ..)", x.copy(-1, 0, 1, 0, 1), BAD);
        due.is("copy(.., 8, ..)", x.copy(0, 0, 8, 0, 1), BAD);
        due.is("BAD is ahead of NULL", x.copy(3, 0, 8, 0, 1), BAD);
        due.is("copy of one that is missing", x.copy(3, 0, 1, 0, 1), NULL);
        due.is("copy to one that is missing", x.copy(0, 0, 3, 0, 1), NULL);
        due.is("NULL is ahead of PLACE", x.copy(0, -1, 3, 0, 1), NULL);
        due.is("STORE", x.copy(0, 0, 2, 0, 1), STORE);
        due.is("STORE is ahead of PLACE", x.copy(0, -1, 2, 0, 9), STORE);
        due.is("i below 0", x.copy(0, -1, 1, 0, 1), PLACE);
        due.is("j below 0", x.copy(0, 0, 1, -1, 1), PLACE);
        due.is("n below 0", x.copy(0, 1, 1, 1, -1), PLACE);
        due.is("beyond the end of a", x.copy(0, 4, 1, 0, 2), PLACE);
        due.is("beyond the end of b", x.copy(0, 0, 1, 2, 2), PLACE);
        due.is("none at both ends", x.copy(0, 5, 1, 3, 0), 0);
        due.is("none beyond an end", x.copy(0, 6, 1, 0, 0), PLACE);
        due.is("sums that would wrap around", x.copy(0, Integer.MAX_VALUE, 1, 0, Integer.MAX_VALUE), PLACE);
        due.is("sums that would wrap around", x.copy(0, 1, 1, 1, Integer.MAX_VALUE), PLACE);
        due.is("all", x.copy(1, 0, 0, 2, 3), 3);
    }

    private static void promise5() {
        InflatedRows x = new InflatedRows();
        x.row(3, 1, 17);
        due.is("drop(3)", x.drop(3), 17);
        due.is("count(0)", x.count(0), 0);
        due.is("drop(3) again", x.drop(3), NULL);
        due.is("set(3, 0, 0)", x.set(3, 0, 0), NULL);
        due.is("drop(-1)", x.drop(-1), BAD);
        due.is("drop(8)", x.drop(8), BAD);
        x.row(3, 1, 0);
        due.is("drop of one with none", x.drop(3), 0);
    }
}
