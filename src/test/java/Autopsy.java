/** All that can be seen of an object, but status(), as one text; the object is used up by it. */
final class Autopsy {
    /** Behind the bytes r1 this makes a text by which ITEMS 0 to 3 are letters. */
    private static final String TAIL = ",1;f1,1,a;f1,1,b;f1,1,c;f1,1,d;xa;";

    private Autopsy() {
    }

    static String of(InflatedRows x) {
        StringBuilder told = new StringBuilder();
        for (int what = 0; what <= 5; what++) told.append(x.count(what)).append(' ');
        told.append("fault ").append(x.fault()).append(" trace ").append(Edges.traceOf(x));
        tellBook(x, told);
        for (int i = 0; i < 24 && x.undo() >= 0; i++) {
            told.append("\n  undone");
            tellBook(x, told);
        }
        for (int k = 0; k <= 1; k++) {
            told.append("\n  image ").append(x.restore(k));
            tellBook(x, told);
        }
        told.append("\n  tape ").append(Due.book(x, TAIL)).append(" fault ").append(x.fault());
        Due.book(x, "r1" + TAIL);
        for (int row = 0; row < 8; row++) tellRow(x, row, told);
        return told.toString();
    }

    private static void tellBook(InflatedRows x, StringBuilder told) {
        told.append(" law ").append(x.whole(0)).append(' ').append(x.whole(1));
        for (int sort = 0; sort < x.count(1); sort++) {
            told.append(" sort ").append(x.kind(sort)).append(' ').append(x.sort(sort, 0));
            told.append(' ').append(x.sort(sort, 1)).append(' ').append(Edges.wordOf(x, sort));
        }
        told.append(" row ").append(Due.theRow(x));
    }

    /** Its letters, as many as 8; its LANE by what a great number becomes; its size. */
    private static void tellRow(InflatedRows x, int row, StringBuilder told) {
        int begun = Edges.PLACE;
        for (int n = 8; n >= 1 && begun == Edges.PLACE; n--) begun = x.begin(row, n);
        told.append("\n  row ").append(row).append(' ').append(begun >= 0 ? Due.theRow(x) : "");
        told.append(' ').append(x.set(row, 0, 70000)).append(' ').append(x.drop(row));
    }
}
