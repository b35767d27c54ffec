import java.lang.management.ManagementFactory;

/** All calls of a run live in one room: an object is made once, and its calls make nothing more. */
public final class RoomTest {
    private static final com.sun.management.ThreadMXBean THREADS =
        (com.sun.management.ThreadMXBean) ManagementFactory.getThreadMXBean();
    private static final String TEXT = "r3,9;p9,9,abcd;m9,9,bcda;l9,9,cdab;s9,9,d;xabcdabcd;";
    private static final Due due = new Due();
    private static long answers = 0;

    public static void main(String[] args) {
        for (int i = 0; i < 25; i++) calls(new InflatedRows());
        InflatedRows[] objects = new InflatedRows[25];
        long ahead = made();
        for (int i = 0; i < 25; i++) objects[i] = new InflatedRows();
        long object = (made() - ahead) / 25;
        due.is("an object of " + object + " bytes is small", object > 0 && object < 40000 ? 1 : 0, 1);
        ahead = made();
        for (InflatedRows x : objects) calls(x);
        long more = made() - ahead;
        due.is("calls that made " + more + " bytes made next to nothing", more < 1000 ? 1 : 0, 1);
        due.is("all calls answered", answers == 0 ? 0 : 1, 1);
        due.end("RoomTest");
    }

    private static long made() {
        return THREADS.getThreadAllocatedBytes(Thread.currentThread().getId());
    }

    /** As many rounds as an object's 512 calls have room for. */
    private static void calls(InflatedRows x) {
        for (int i = 0; i < 4; i++) {
            for (int at = 0; at < TEXT.length(); at++) answers += x.feed(TEXT.charAt(at));
            answers += x.book();
            answers += x.row(0, 0, 40) + x.set(0, 0, 1) + x.copy(0, 0, 0, 1, 39);
            answers += x.word(0, 0, 4) + x.length(0, 0, 9) + x.become(0, 4) + x.root(0, 3) + x.begin(0, 8);
            answers += x.undo() + x.undo() + x.undo() + x.undo() + x.undo() + x.inflate();
            answers += x.sort(0, 3) + x.letter(0) + x.grown(6, -1) + x.origin(3, 100, 3) + x.place(3, 100, 1);
            answers += x.numbers(0, 60) + x.share(0, 20, 1) + x.all(60, 0) + x.whole(3) + x.whole(5);
            answers += x.back(0, 40, -1) + x.back(0, 40, 39) + x.who(0, 0, 0, 6, 0, 40) + x.who(0, 0, 1, 6, 0, 40);
            answers += x.who(0, 0, 2, 6, 0, 40) + x.quiet() + x.sets(36, 2) + x.lost(0, 20, 3, 0);
            answers += x.drawn(30, 999999, 0) + x.image(0) + x.restore(0) + x.kind(0) + x.as(0, 1);
            answers += x.ask(0, 0) + x.trace(0) + x.count(3) + x.status() + x.fault() + x.drop(0);
        }
    }
}
