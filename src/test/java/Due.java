/** Counts the answers of one test that are not the ones that are due, and helps to tell an object things. */
final class Due {
    private int asked = 0;
    private int wrong = 0;

    void is(String call, long got, long want) {
        asked++;
        if (got == want) return;
        wrong++;
        System.out.println(call + " answered " + got + ", due is " + want);
    }

    void end(String test) {
        System.out.println(test + ": " + asked + " answers, " + wrong + " wrong");
        if (wrong != 0 || asked == 0) System.exit(1);
    }

    static void feed(InflatedRows x, String text) {
        for (int i = 0; i < text.length(); i++) x.feed(text.charAt(i));
    }

    static int book(InflatedRows x, String text) {
        feed(x, text);
        return x.book();
    }

    /** A new object with a BOOK. */
    static InflatedRows with(String text) {
        InflatedRows x = new InflatedRows();
        int sorts = book(x, text);
        if (sorts < 1) throw new IllegalStateException("a test's own text has a fault: " + text + ": " + sorts);
        return x;
    }

    /** A ROW of ints. */
    static void row(InflatedRows x, int row, int... items) {
        x.row(row, 2, items.length);
        for (int i = 0; i < items.length; i++) x.set(row, i, items[i]);
    }

    /** Letters of THE ROW, a for SORT 0. */
    static String theRow(InflatedRows x) {
        StringBuilder letters = new StringBuilder();
        for (int i = 0; i < x.count(2); i++) letters.append((char) ('a' + x.letter(i)));
        return letters.toString();
    }

    void row(String call, InflatedRows x, String want) {
        is(call + ": THE ROW is " + theRow(x) + ", due is " + want, theRow(x).equals(want) ? 1 : 0, 1);
    }

    static String grown(InflatedRows x, int n) {
        StringBuilder letters = new StringBuilder();
        int many = x.grown(n, -1);
        for (int i = 0; i < many; i++) letters.append((char) ('a' + x.grown(n, i)));
        return letters.toString();
    }
}
