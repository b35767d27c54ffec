import java.util.HashSet;
import java.util.Set;

/**
 * Tests of the document's edges. Each is one sentence of the document for one promise: it bears the promise's number
 * and the case, and tells both where an answer is not the one that is due.
 */
abstract class Edges {
    static final int NONE = -1000000, BAD = -1000001, STATE = -1000002, FULL = -1000003;
    static final int NULL = -1000011, PLACE = -1000012, KIND = -1000013;
    static final int SIZE = -1000014, STORE = -1000015, OVER = -1000016;
    static final int LEAST = Integer.MIN_VALUE, MOST = Integer.MAX_VALUE;

    private final int first;
    private final int last;
    private final Set<String> names = new HashSet<>();
    private final int[] tests = new int[39];
    private String now = "no test was named";
    private int answersOfTest = 1;
    private int answers = 0;
    private int wrong = 0;

    /** The promises of which each must have a test. */
    Edges(int first, int last) {
        this.first = first;
        this.last = last;
    }

    /** From here on all answers belong to this sentence. */
    final void test(int promise, String sentence) {
        noteIf(answersOfTest == 0, now + ": this test asks nothing");
        now = "promise " + promise + ": " + sentence;
        answersOfTest = 0;
        tests[promise]++;
        noteIf(!names.add(now), now + ": there are two tests of this name");
    }

    final void is(String call, long got, long want) {
        answers++;
        answersOfTest++;
        noteIf(got != want, now + ": " + call + " answered " + got + ", due is " + want);
    }

    final void same(String call, String got, String want) {
        answers++;
        answersOfTest++;
        noteIf(!got.equals(want), now + ": " + call + " is\n  " + got + ", due is\n  " + want);
    }

    private void noteIf(boolean isWrong, String what) {
        if (!isWrong) return;
        wrong++;
        System.out.println(what);
    }

    final void end() {
        noteIf(answersOfTest == 0, now + ": this test asks nothing");
        int many = 0;
        for (int promise = 0; promise < tests.length; promise++) {
            many += tests[promise];
            boolean due = promise >= first && promise <= last;
            noteIf(due && tests[promise] == 0, "promise " + promise + " has no test");
        }
        System.out.println(getClass().getName() + ": " + many + " tests, " + answers + " answers, " + wrong + " wrong");
        if (wrong != 0) System.exit(1);
    }

    /** Letters as a text, a for 0; a number that is no letter is told in figures. */
    static String text(int... letters) {
        StringBuilder text = new StringBuilder();
        for (int letter : letters) {
            if (letter >= 0 && letter < 26) text.append((char) ('a' + letter));
            else text.append('<').append(letter).append('>');
        }
        return text.toString();
    }

    /** A ROW of bytes with the letters of a text. */
    static void tell(InflatedRows x, int row, String letters) {
        x.row(row, 0, letters.length());
        for (int i = 0; i < letters.length(); i++) x.set(row, i, letters.charAt(i) - 'a');
    }

    static String wordOf(InflatedRows x, int sort) {
        int[] letters = new int[Math.max(0, x.sort(sort, 2))];
        for (int i = 0; i < letters.length; i++) letters[i] = x.sort(sort, 10 + i);
        return text(letters);
    }

    static String imageOf(InflatedRows x, int sort) {
        int[] letters = new int[Math.max(0, x.sort(sort, 3))];
        for (int i = 0; i < letters.length; i++) letters[i] = x.sort(sort, 20 + i);
        return text(letters);
    }

    static String traceOf(InflatedRows x) {
        StringBuilder told = new StringBuilder();
        for (int i = 0; i < 17 && x.trace(i) != NONE; i++) told.append(i == 0 ? "" : " ").append(x.trace(i));
        return told.toString();
    }

    /** PAIRS, each as two letters, as the bits that they are. */
    static int pairs(String... pairs) {
        int bits = 0;
        for (String pair : pairs) bits |= 1 << 4 * (pair.charAt(0) - 'a') + pair.charAt(1) - 'a';
        return bits;
    }

    static int bits(int... places) {
        int bits = 0;
        for (int place : places) bits |= 1 << place;
        return bits;
    }
}
