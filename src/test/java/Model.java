import java.math.BigInteger;
import java.util.ArrayList;
import java.util.Arrays;
import java.util.List;
import java.util.Set;
import java.util.TreeSet;
import java.util.regex.Matcher;
import java.util.regex.Pattern;

/**
 * A second reading of the document: with texts, lists and great numbers, by trying all there is, where the class
 * counts. It says nothing of how the class does it.
 */
public final class Model {
    static final int NONE = -1000000, BAD = -1000001, STATE = -1000002, FULL = -1000003;
    private static final BigInteger MOST = BigInteger.valueOf(Long.MAX_VALUE);

    /** One SORT as told; a WORD is a text of letters a to d. */
    private record Sort(int kind, int p, int q, String word) {
        String image(int number) {
            String self = "" + (char) ('a' + number);
            return switch (kind) {
                case 2 -> new StringBuilder(word).reverse().toString();
                case 4 -> self;
                case 5 -> self + self;
                default -> word;
            };
        }

        int long2(int v) {
            return kind == 3 ? 2 * v : v;
        }
    }

    private record Book(int m, int k, List<Sort> sorts, String row) {
        String inflate(String letters) {
            StringBuilder all = new StringBuilder();
            for (char c : letters.toCharArray()) all.append(sorts.get(c - 'a').image(c - 'a'));
            return all.toString();
        }

        /** null: FULL. */
        String grown(int n) {
            String now = row;
            for (int i = 0; i < n && now.length() <= 300; i++) now = inflate(now);
            return now.length() <= 300 ? now : null;
        }

        Set<String> pairs() {
            Set<String> known = new TreeSet<>();
            List<String> todo = new ArrayList<>();
            todo.add(row);
            while (!todo.isEmpty()) {
                String text = todo.remove(0);
                for (int size = 1; size <= 2; size++) {
                    for (int i = 0; i + size <= text.length(); i++) {
                        String part = text.substring(i, i + size);
                        if (known.add(part)) todo.add(inflate(part));
                    }
                }
            }
            known.removeIf(part -> part.length() == 1);
            return known;
        }

        int pairBits() {
            int bits = 0;
            for (String pair : pairs()) bits |= 1 << 4 * (pair.charAt(0) - 'a') + pair.charAt(1) - 'a';
            return bits;
        }

        Book withSort(int one, Sort sort) {
            List<Sort> changed = new ArrayList<>(sorts);
            changed.set(one, sort);
            return new Book(m, k, changed, row);
        }

        Book withRow(String letters) {
            return new Book(m, k, sorts, letters);
        }

        int length(String letters, int which) {
            int sum = 0;
            for (char c : letters.toCharArray()) {
                Sort s = sorts.get(c - 'a');
                sum += s.long2(which == 0 ? s.p : s.q);
            }
            return sum;
        }
    }

    private final int[][] rows = new int[8][];
    private final int[] lanes = new int[8];
    private final StringBuilder tape = new StringBuilder();
    private Book book = null;
    private final List<Book> acts = new ArrayList<>();
    private final Book[] images = new Book[2];
    private final List<Integer> trace = new ArrayList<>();
    private int fault = 0;
    private int finding = 0;

    private int found(int number) {
        finding = number;
        return -1000010 - number;
    }

    private int fine(int answer) {
        finding = 0;
        return answer;
    }

    private static boolean out(int v, int least, int most) {
        return v < least || v > most;
    }

    private boolean noSort(int one) {
        return book == null || out(one, 0, book.sorts.size() - 1);
    }

    private void act(Book next) {
        acts.add(book);
        if (acts.size() > 24) acts.remove(0);
        book = next;
    }

    public int row(int row, int lane, int n) {
        if (out(row, 0, 7) || out(lane, 0, 2) || n > 40) return BAD;
        if (n < 0) return found(4);
        rows[row] = new int[n];
        lanes[row] = lane;
        return fine(n);
    }

    public int set(int row, int i, int v) {
        if (out(row, 0, 7)) return BAD;
        if (rows[row] == null) return found(1);
        if (out(i, 0, rows[row].length - 1)) return found(2);
        int unused = new int[] {24, 16, 0}[lanes[row]];
        rows[row][i] = v << unused >> unused;
        return fine(rows[row][i]);
    }

    public int copy(int a, int i, int b, int j, int n) {
        if (out(a, 0, 7) || out(b, 0, 7)) return BAD;
        if (rows[a] == null || rows[b] == null) return found(1);
        if (lanes[a] != lanes[b]) return found(5);
        if (i < 0 || j < 0 || n < 0) return found(2);
        if ((long) i + n > rows[a].length || (long) j + n > rows[b].length) return found(2);
        int[] were = rows[a].clone();
        for (int x = 0; x < n; x++) rows[b][j + x] = were[i + x];
        return fine(n);
    }

    public int drop(int row) {
        if (out(row, 0, 7)) return BAD;
        if (rows[row] == null) return found(1);
        int had = rows[row].length;
        rows[row] = null;
        return fine(had);
    }

    public int feed(int letter) {
        if (out(letter, 0, 255)) return BAD;
        if (tape.length() == 120) return FULL;
        tape.append((char) letter);
        return tape.length();
    }

    /** TOKENS by a pattern; what may stand next is told by a text of one sign each, walked as they come. */
    public int book() {
        String text = tape.toString();
        tape.setLength(0);
        Matcher tokens = Pattern.compile("[0-9]+|(?s:.)").matcher(text);
        int m = 0;
        int k = 0;
        int p = 0;
        int q = 0;
        int kind = 0;
        StringBuilder word = new StringBuilder();
        StringBuilder row = new StringBuilder();
        List<Sort> sorts = new ArrayList<>();
        String state = "r";
        while (true) {
            boolean more = tokens.find();
            int at = more ? tokens.start() : text.length();
            String token = more ? tokens.group() : "end";
            boolean number = token.matches("[0-9]{1,2}");
            int value = number ? Integer.parseInt(token) : -1;
            boolean tile = token.matches("[a-d]");
            switch (state) {
                case "r":
                    if (!token.equals("r")) return fault(1, at);
                    state = "M";
                    break;
                case "M":
                    if (!number) return fault(1, at);
                    if (value > 3) return fault(2, at);
                    m = value;
                    state = "M,";
                    break;
                case "M,":
                case "P,":
                case "Q,":
                    if (!token.equals(",")) return fault(1, at);
                    state = state.equals("M,") ? "K" : state.equals("P,") ? "Q" : "word";
                    break;
                case "K":
                    if (!number) return fault(1, at);
                    if (value < 1 || value > 9) return fault(2, at);
                    k = value;
                    state = "K;";
                    break;
                case "K;":
                    if (!token.equals(";")) return fault(1, at);
                    state = "sort";
                    break;
                case "sort":
                    if (token.equals("x") && !sorts.isEmpty()) {
                        state = "row";
                        break;
                    }
                    if (!token.matches("[pmlfs]")) return fault(1, at);
                    if (sorts.size() == 4) return fault(3, at);
                    kind = 1 + "pmlfs".indexOf(token);
                    state = "P";
                    break;
                case "P":
                case "Q":
                    if (!number) return fault(1, at);
                    if (value > 9) return fault(2, at);
                    if (state.equals("P")) p = value;
                    else q = value;
                    state += ",";
                    break;
                case "word":
                    if (tile && word.length() < 4) {
                        word.append(token);
                    } else if (token.equals(";") && word.length() > 0) {
                        sorts.add(new Sort(kind, p, q, word.toString()));
                        word.setLength(0);
                        state = "sort";
                    } else {
                        return fault(1, at);
                    }
                    break;
                case "row":
                    if (tile && row.length() < 8) row.append(token);
                    else if (token.equals(";") && row.length() > 0) state = "end";
                    else return fault(1, at);
                    break;
                default:
                    if (more) return fault(1, at);
                    StringBuilder named = new StringBuilder(row);
                    for (Sort sort : sorts) named.append(sort.word);
                    for (char c : named.toString().toCharArray()) {
                        if (c - 'a' >= sorts.size()) return fault(4, at);
                    }
                    book = new Book(m, k, sorts, row.toString());
                    acts.clear();
                    return sorts.size();
            }
        }
    }

    private int fault(int number, int at) {
        fault = number;
        return -1000100 - at;
    }

    public int fault() {
        return fault;
    }

    public int undo() {
        if (acts.isEmpty()) return STATE;
        book = acts.remove(acts.size() - 1);
        return acts.size();
    }

    /** A text of letters, or null with the FINDING in wrong[0]. */
    private String letters(int row, int n, int[] wrong) {
        wrong[0] = rows[row] == null ? 1 : rows[row].length < n ? 2 : 0;
        if (wrong[0] != 0) return null;
        StringBuilder text = new StringBuilder();
        for (int i = 0; i < n; i++) {
            if (out(rows[row][i], 0, book.sorts.size() - 1)) wrong[0] = 2;
            text.append((char) ('a' + rows[row][i]));
        }
        return wrong[0] == 0 ? text.toString() : null;
    }

    public int word(int sort, int row, int n) {
        if (noSort(sort) || out(row, 0, 7) || out(n, 1, 4)) return BAD;
        int[] wrong = new int[1];
        String letters = letters(row, n, wrong);
        if (letters == null) return found(wrong[0]);
        Sort s = book.sorts.get(sort);
        act(book.withSort(sort, new Sort(s.kind, s.p, s.q, letters)));
        return fine(s.word.length());
    }

    public int length(int sort, int which, int v) {
        if (noSort(sort) || out(which, 0, 1) || out(v, 0, 9)) return BAD;
        Sort s = book.sorts.get(sort);
        act(book.withSort(sort, new Sort(s.kind, which == 0 ? v : s.p, which == 1 ? v : s.q, s.word)));
        return which == 0 ? s.p : s.q;
    }

    public int become(int sort, int kind) {
        if (noSort(sort) || out(kind, 1, 5)) return BAD;
        Sort s = book.sorts.get(sort);
        if (s.kind == kind) return STATE;
        act(book.withSort(sort, new Sort(kind, s.p, s.q, s.word)));
        return s.kind;
    }

    public int root(int which, int v) {
        if (book == null) return STATE;
        if (out(which, 0, 1) || which == 0 && out(v, 0, 3) || which == 1 && out(v, 1, 9)) return BAD;
        Book was = book;
        act(new Book(which == 0 ? v : was.m, which == 1 ? v : was.k, was.sorts, was.row));
        return which == 0 ? was.m : was.k;
    }

    public int begin(int row, int n) {
        if (book == null) return STATE;
        if (out(row, 0, 7) || out(n, 1, 8)) return BAD;
        int[] wrong = new int[1];
        String letters = letters(row, n, wrong);
        if (letters == null) return found(wrong[0]);
        int had = book.row.length();
        act(book.withRow(letters));
        return fine(had);
    }

    public int inflate() {
        if (book == null) return STATE;
        String letters = book.inflate(book.row);
        if (letters.length() > 8) return FULL;
        act(book.withRow(letters));
        return letters.length();
    }

    private static int letterOf(String text, int i) {
        return i < text.length() ? text.charAt(i) - 'a' : NONE;
    }

    public int sort(int sort, int what) {
        if (noSort(sort)) return BAD;
        Sort s = book.sorts.get(sort);
        String image = s.image(sort);
        return switch (what) {
            case 0 -> s.p;
            case 1 -> s.q;
            case 2 -> s.word.length();
            case 3 -> image.length();
            case 10, 11, 12, 13 -> letterOf(s.word, what - 10);
            case 20, 21, 22, 23 -> letterOf(image, what - 20);
            default -> BAD;
        };
    }

    public int letter(int i) {
        if (book == null) return STATE;
        return i < 0 ? BAD : letterOf(book.row, i);
    }

    public int grown(int n, int i) {
        if (book == null) return STATE;
        if (out(n, 0, 6) || i < -1) return BAD;
        String letters = book.grown(n);
        if (letters == null) return FULL;
        return i == -1 ? letters.length() : letterOf(letters, i);
    }

    /** By how long the IMAGES of all ahead are together. */
    public int origin(int n, int i, int j) {
        if (book == null) return STATE;
        if (out(n, 0, 6)) return BAD;
        String letters = book.grown(n);
        if (letters == null) return FULL;
        if (out(i, 0, letters.length() - 1) || out(j, 0, n)) return BAD;
        int now = i;
        for (int step = 1; step <= j; step++) {
            String before = book.grown(n - step);
            int parent = 0;
            while (book.inflate(before.substring(0, parent + 1)).length() <= now) parent++;
            now = parent;
        }
        return now;
    }

    public long place(int n, int i, int what) {
        if (book == null) return STATE;
        if (out(n, 0, 6) || i < 0 || out(what, 0, 1)) return BAD;
        String letters = book.grown(n);
        if (letters == null) return FULL;
        return i < letters.length() ? book.length(letters.substring(0, i), what) : NONE;
    }

    /** null: OVER. */
    private BigInteger[] tally(int n) {
        BigInteger[] now = new BigInteger[4];
        Arrays.fill(now, BigInteger.ZERO);
        for (char c : book.row.toCharArray()) now[c - 'a'] = now[c - 'a'].add(BigInteger.ONE);
        for (int step = 0; step < n; step++) {
            BigInteger[] next = new BigInteger[4];
            Arrays.fill(next, BigInteger.ZERO);
            for (int one = 0; one < book.sorts.size(); one++) {
                for (char c : book.sorts.get(one).image(one).toCharArray()) next[c - 'a'] = next[c - 'a'].add(now[one]);
            }
            now = next;
            for (BigInteger many : now) {
                if (many.compareTo(MOST) > 0) return null;
            }
        }
        return now;
    }

    private long orOver(BigInteger answer, BigInteger sum) {
        if (sum == null || sum.compareTo(MOST) > 0) return found(6);
        finding = 0;
        return answer.longValueExact();
    }

    public long numbers(int sort, int n) {
        if (noSort(sort) || out(n, 0, 60)) return BAD;
        BigInteger[] all = tally(n);
        return all == null ? orOver(null, null) : orOver(all[sort], all[sort]);
    }

    public long share(int sort, int n, int what) {
        if (noSort(sort) || out(n, 0, 60) || out(what, 0, 1)) return BAD;
        BigInteger[] all = tally(n);
        if (all == null) return orOver(null, null);
        BigInteger sum = all[0].add(all[1]).add(all[2]).add(all[3]);
        return orOver((what == 0 ? all[sort] : sum).divide(all[sort].gcd(sum)), sum);
    }

    public long all(int n, int what) {
        if (book == null) return STATE;
        if (out(n, 0, 60) || out(what, 0, 1)) return BAD;
        BigInteger[] all = tally(n);
        if (all == null) return orOver(null, null);
        BigInteger sum = BigInteger.ZERO;
        for (int one = 0; one < book.sorts.size(); one++) {
            sum = sum.add(all[one].multiply(BigInteger.valueOf(book.length("" + (char) ('a' + one), what))));
        }
        return orOver(sum, sum);
    }

    public int whole(int what) {
        if (book == null) return STATE;
        return switch (what) {
            case 0 -> book.m;
            case 1 -> book.k;
            case 2 -> book.row.length();
            case 3 -> book.pairBits();
            case 4 -> book.pairs().size();
            case 5, 6 -> scale(what);
            default -> BAD;
        };
    }

    private int scale(int what) {
        for (int st = 0; st < 100; st++) {
            int s = st / 10;
            int t = st % 10;
            boolean fits = true;
            for (int one = 0; one < book.sorts.size(); one++) {
                String self = "" + (char) ('a' + one);
                int p = book.length(self, 0);
                int q = book.length(self, 1);
                int rr = t * q;
                fits &= book.length(book.inflate(self), 0) == s * p + rr * book.k;
                fits &= book.length(book.inflate(self), 1) == s * q + t * p + rr * book.m;
            }
            if (fits) return what == 5 ? s : t;
        }
        return NONE;
    }

    public int back(int row, int n, int what) {
        if (book == null) return STATE;
        if (out(row, 0, 7) || out(n, 1, 40) || what < -1) return BAD;
        int[] wrong = new int[1];
        String letters = letters(row, n, wrong);
        if (letters == null) return found(wrong[0]);
        BigInteger[] ways = new BigInteger[n + 1];
        String[] firsts = new String[n + 1];
        ways[0] = BigInteger.ONE;
        firsts[0] = "";
        for (int end = 1; end <= n; end++) {
            ways[end] = BigInteger.ZERO;
            for (int one = 0; one < book.sorts.size(); one++) {
                String image = book.sorts.get(one).image(one);
                if (!letters.substring(0, end).endsWith(image)) continue;
                ways[end] = ways[end].add(ways[end - image.length()]);
                String before = firsts[end - image.length()];
                if (before == null) continue;
                String first = before + (char) ('a' + one);
                if (firsts[end] == null || first.compareTo(firsts[end]) < 0) firsts[end] = first;
            }
        }
        if (what == -1) return fine(ways[n].min(BigInteger.valueOf(1000000)).intValueExact());
        return fine(firsts[n] == null ? NONE : letterOf(firsts[n], what));
    }

    public int who(int sort, int x, int which, int n, int row, int m) {
        if (noSort(sort) || out(which, 0, 2) || out(n, 0, 6) || out(row, 0, 7) || out(m, 1, 40)) return BAD;
        Sort s = book.sorts.get(sort);
        if (which == 1 && out(x, 0, book.row.length() - 1)) return BAD;
        if (which == 2 && out(x, 0, s.word.length() - 1)) return BAD;
        if (rows[row] == null) return found(1);
        if (rows[row].length < m) return found(2);
        int bits = 0;
        for (int v = which == 0 ? 1 : 0; v < (which == 0 ? 6 : book.sorts.size()); v++) {
            Book other = which == 0 ? book.withSort(sort, new Sort(v, s.p, s.q, s.word))
                : which == 1 ? book.withRow(with(book.row, x, v))
                : book.withSort(sort, new Sort(s.kind, s.p, s.q, with(s.word, x, v)));
            if (tells(other.grown(n), rows[row], m)) bits |= 1 << v;
        }
        return fine(bits);
    }

    private static String with(String text, int place, int letter) {
        return text.substring(0, place) + (char) ('a' + letter) + text.substring(place + 1);
    }

    private static boolean tells(String letters, int[] items, int m) {
        if (letters == null) return false;
        for (int i = 0; i < m; i++) {
            if (letterOf(letters, i) != items[i] || i >= letters.length()) return false;
        }
        return true;
    }

    public int quiet() {
        if (book == null) return STATE;
        int bits = 0;
        Set<String> pairs = book.pairs();
        for (int i = 0; i < book.row.length(); i++) {
            for (int v = 0; v < book.sorts.size(); v++) {
                String other = with(book.row, i, v);
                if (!other.equals(book.row) && book.withRow(other).pairs().equals(pairs)) bits |= 1 << i;
            }
        }
        return bits;
    }

    public int sets(int v, int what) {
        if (book == null) return STATE;
        if (out(v, 0, 99) || out(what, 0, 2)) return BAD;
        List<Integer> all = new ArrayList<>();
        for (int set = 0; set < 1 << book.row.length(); set++) {
            StringBuilder there = new StringBuilder();
            for (int i = 0; i < book.row.length(); i++) {
                if ((set & 1 << i) != 0) there.append(book.row.charAt(i));
            }
            if (book.length(there.toString(), 0) == v) all.add(set);
        }
        if (what == 0) return all.size();
        int inAny = 0;
        for (int set : all) inAny |= set;
        if (what == 2) return inAny;
        int inAll = inAny;
        for (int set : all) inAll &= set;
        return inAll;
    }

    public long lost(int sort, int v, int p, int what) {
        if (noSort(sort) || out(v, 0, 40) || out(p, 0, 10) || out(what, 0, 1)) return BAD;
        BigInteger above = BigInteger.ZERO;
        for (int left = 0; left < 1 << book.row.length(); left++) {
            BigInteger cases = BigInteger.ONE;
            StringBuilder there = new StringBuilder();
            for (int i = 0; i < book.row.length(); i++) {
                boolean stays = (left & 1 << i) != 0;
                if (stays) there.append(book.row.charAt(i));
                cases = cases.multiply(BigInteger.valueOf(stays ? 10 - p : p));
            }
            long many = book.inflate(there.toString()).chars().filter(c -> c == 'a' + sort).count();
            if (many <= v) above = above.add(cases);
        }
        BigInteger below = BigInteger.TEN.pow(book.row.length());
        return (what == 0 ? above : below).divide(above.gcd(below)).longValueExact();
    }

    public int drawn(int n, int seed, int what) {
        if (book == null) return STATE;
        if (out(n, 0, 30) || out(seed, 1, 999999) || out(what, 0, 1)) return BAD;
        BigInteger x = BigInteger.valueOf(seed);
        Book now = book;
        int together = 0;
        int inAll = 65535;
        for (int year = 0; year < n; year++) {
            x = x.multiply(BigInteger.valueOf(16807)).mod(BigInteger.valueOf(2147483647));
            int place = x.intValueExact() % now.row.length();
            now = now.withRow(with(now.row, place, x.intValueExact() / 16 % now.sorts.size()));
            together += now.pairs().size();
            inAll &= now.pairBits();
        }
        return what == 0 ? together : inAll;
    }

    public int image(int k) {
        if (out(k, 0, 1)) return BAD;
        if (book == null) return STATE;
        images[k] = book;
        return 1;
    }

    public int restore(int k) {
        if (out(k, 0, 1)) return BAD;
        if (images[k] == null) return STATE;
        book = images[k];
        acts.clear();
        return 1;
    }

    public int kind(int one) {
        return noSort(one) ? BAD : book.sorts.get(one).kind;
    }

    /** The KINDS as Java's own classes, so that Java's own rules say which BODY begins. */
    private interface Any {
        List<Integer> trace();

        int p();

        int number();

        int letters();

        default int size() {
            trace().add(10);
            return p();
        }

        default int mark() {
            trace().add(20);
            return number();
        }
    }

    private abstract static class Told implements Any {
        List<Integer> trace;
        int p;
        int number;
        int letters;

        public List<Integer> trace() {
            return trace;
        }

        public int p() {
            return p;
        }

        public int number() {
            return number;
        }

        public int letters() {
            return letters;
        }
    }

    private static class Plain extends Told {
        public int size() {
            trace().add(11);
            int given = super.size();
            return given + mark();
        }

        public int mark() {
            trace().add(21);
            return super.mark() + letters();
        }
    }

    private static class Mirrored extends Plain {
        public int size() {
            trace().add(12);
            return -super.size();
        }

        public int mark() {
            trace().add(24);
            return 2 * super.mark();
        }
    }

    private static class Longer extends Plain {
        public int mark() {
            trace().add(22);
            return super.mark() - 1000;
        }
    }

    private static class Fixed extends Told {
        public int size() {
            trace().add(13);
            return super.size() - 100;
        }

        public int mark() {
            trace().add(23);
            int given = super.mark();
            return given - size();
        }
    }

    private static class Split extends Fixed {
        public int size() {
            trace().add(14);
            return 2 * super.size();
        }
    }

    private Told told(int one) {
        Sort s = book.sorts.get(one);
        Told told = switch (s.kind) {
            case 1 -> new Plain();
            case 2 -> new Mirrored();
            case 3 -> new Longer();
            case 4 -> new Fixed();
            default -> new Split();
        };
        told.trace = new ArrayList<>();
        told.p = s.p;
        told.number = one;
        told.letters = s.word.length();
        return told;
    }

    public int as(int one, int kind) {
        if (noSort(one) || out(kind, 0, 5)) return BAD;
        Class<?>[] kinds = {Any.class, Plain.class, Mirrored.class, Longer.class, Fixed.class, Split.class};
        return kinds[kind].isInstance(told(one)) ? fine(one) : found(3);
    }

    public int ask(int one, int what) {
        if (noSort(one) || out(what, 0, 1)) return BAD;
        Told told = told(one);
        int answer = what == 0 ? told.size() : told.mark();
        trace.clear();
        trace.addAll(told.trace.subList(0, Math.min(16, told.trace.size())));
        return answer;
    }

    public int trace(int i) {
        return out(i, 0, trace.size() - 1) ? NONE : trace.get(i);
    }

    public int count(int what) {
        int there = 0;
        for (int[] row : rows) {
            if (row != null) there++;
        }
        int letters = 0;
        if (book != null) {
            for (Sort sort : book.sorts) letters += sort.word.length();
        }
        return switch (what) {
            case 0 -> there;
            case 1 -> book == null ? 0 : book.sorts.size();
            case 2 -> book == null ? 0 : book.row.length();
            case 3 -> letters;
            case 4 -> acts.size();
            case 5 -> tape.length();
            default -> BAD;
        };
    }

    public int status() {
        return finding;
    }
}
