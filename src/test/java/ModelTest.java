import java.lang.reflect.Method;
import java.lang.reflect.Modifier;
import java.util.ArrayList;
import java.util.Arrays;
import java.util.Comparator;
import java.util.List;
import java.util.Random;

/** Runs of calls from fixed seeds: the class must answer as the Model does, call by call. */
public final class ModelTest {
    private static final int RUNS = Integer.getInteger("runs", 1500), CALLS = 512;
    private static final List<Method> CLASS_CALLS = new ArrayList<>();
    private static final List<Method> MODEL_CALLS = new ArrayList<>();
    private static int answers = 0;
    private static int callsOfRun = 0;
    private static int wrong = 0;
    private static final java.util.Map<String, Integer> tellings = new java.util.TreeMap<>();

    public static void main(String[] args) throws ReflectiveOperationException {
        for (Method method : InflatedRows.class.getDeclaredMethods()) {
            if (Modifier.isPublic(method.getModifiers())) CLASS_CALLS.add(method);
        }
        CLASS_CALLS.sort(Comparator.comparing(Method::getName));
        for (Method method : CLASS_CALLS) {
            MODEL_CALLS.add(Model.class.getMethod(method.getName(), method.getParameterTypes()));
        }
        for (int seed = 1; seed <= RUNS && wrong == 0; seed++) run(seed);
        if (Boolean.getBoolean("tell")) System.out.println(tellings);
        System.out.println("ModelTest: " + answers + " answers of " + CLASS_CALLS.size() + " calls, " + wrong + " wrong");
        if (wrong != 0 || answers == 0 || CLASS_CALLS.size() != 37) System.exit(1);
    }

    private static void run(int seed) throws ReflectiveOperationException {
        Random random = new Random(seed);
        InflatedRows x = new InflatedRows();
        Model model = new Model();
        List<String> told = new ArrayList<>();
        callsOfRun = 0;
        while (callsOfRun < CALLS && wrong == 0) {
            if (random.nextInt(callsOfRun < 60 ? 4 : 40) == 0) {
                String text = Texts.draw(random);
                for (char c : text.toCharArray()) call(x, model, told, "feed", c);
                call(x, model, told, "book");
                call(x, model, told, "fault");
            } else if (random.nextInt(6) == 0) {
                tellRow(x, model, told, random);
            } else {
                int which = random.nextInt(CLASS_CALLS.size());
                String name = CLASS_CALLS.get(which).getName();
                if ((name.equals("feed") || name.equals("book")) && random.nextInt(8) != 0) continue;
                int[] numbers = Numbers.draw(random, CLASS_CALLS.get(which), model);
                call(x, model, told, name, numbers);
                call(x, model, told, "status");
            }
        }
    }

    /** Often the row that is told lies in THE ROW GROWN, so that back and who have something to find. */
    private static void tellRow(InflatedRows x, Model model, List<String> told, Random random)
            throws ReflectiveOperationException {
        int row = random.nextInt(8);
        int step = random.nextInt(4);
        int many = model.grown(step, -1);
        int n = many > 0 && random.nextInt(3) > 0 ? Math.min(many, 40) : 1 + random.nextInt(12);
        if (n > 12 && random.nextInt(4) > 0) n = 12;
        call(x, model, told, "row", row, random.nextInt(3), n);
        int sorts = Math.max(1, model.count(1));
        for (int i = 0; i < n; i++) {
            int letter = model.grown(step, i);
            if (letter < 0 || random.nextInt(60) == 0) letter = random.nextInt(sorts + 1);
            call(x, model, told, "set", row, i, letter);
        }
    }

    /** No call is made beyond those of which the document tells the answers. */
    private static void call(InflatedRows x, Model model, List<String> told, String name, int... numbers)
            throws ReflectiveOperationException {
        if (callsOfRun >= CALLS) return;
        callsOfRun++;
        int which = 0;
        while (!CLASS_CALLS.get(which).getName().equals(name)) which++;
        Object[] boxed = Arrays.stream(numbers).boxed().toArray();
        Object got = CLASS_CALLS.get(which).invoke(x, boxed);
        Object want = MODEL_CALLS.get(which).invoke(model, boxed);
        String text = name + Arrays.toString(numbers);
        told.add(text + " = " + got);
        answers++;
        long answer = ((Number) got).longValue();
        tellings.merge(name + (answer > -1000020 && answer <= -1000000 ? " " + answer : ""), 1, Integer::sum);
        if (!got.equals(want)) {
            wrong++;
            for (String line : told) System.out.println(line);
            System.out.println(text + " answered " + got + ", due is " + want);
        }
    }

    /** Texts, most of them without a fault. */
    private static final class Texts {
        static String draw(Random random) {
            StringBuilder text = new StringBuilder();
            text.append('r').append(number(random, 3, 0)).append(',').append(number(random, 8, 1)).append(';');
            int sorts = 1 + random.nextInt(4);
            for (int i = 0; i < sorts; i++) {
                text.append("pppmlfs".charAt(random.nextInt(7)));
                int most = random.nextBoolean() ? 9 : 2;
                text.append(number(random, most, 0)).append(',').append(number(random, most, 0)).append(',');
                text.append(word(random, sorts, 4)).append(';');
            }
            text.append('x').append(word(random, sorts, 8)).append(';');
            if (random.nextInt(3) == 0) spoil(text, random);
            return text.length() <= 120 ? text.toString() : text.substring(0, 120);
        }

        private static String number(Random random, int most, int least) {
            return (random.nextInt(20) == 0 ? "0" : "") + (least + random.nextInt(most + 1));
        }

        private static String word(Random random, int sorts, int most) {
            StringBuilder word = new StringBuilder();
            int n = 1 + random.nextInt(most);
            for (int i = 0; i < n; i++) word.append((char) ('a' + random.nextInt(sorts)));
            return word.toString();
        }

        private static void spoil(StringBuilder text, Random random) {
            int place = random.nextInt(text.length());
            String signs = "abcdepmlfsrx0123456789,;,; z" + (char) 200;
            char sign = signs.charAt(random.nextInt(signs.length()));
            switch (random.nextInt(5)) {
                case 0:
                    text.setCharAt(place, sign);
                    break;
                case 1:
                    text.insert(place, sign);
                    break;
                case 2:
                    text.deleteCharAt(place);
                    break;
                case 3:
                    text.setLength(place);
                    break;
                default:
                    text.insert(text.indexOf(";") + 1, "p1,1,a;p1,1,a;");
                    break;
            }
        }
    }

    /** Numbers for a call: most of them as told, some at an edge, some wild. */
    private static final class Numbers {
        private static final int[] WILD = {Integer.MIN_VALUE, -2, -1, 0, 1, 40, 41, 61, 100, 256, Integer.MAX_VALUE};

        static int[] draw(Random random, Method method, Model x) {
            int[] numbers = new int[method.getParameterCount()];
            int[] mosts = mosts(method.getName(), x);
            for (int i = 0; i < numbers.length; i++) {
                int least = method.getName().equals("grown") && i == 1 || method.getName().equals("back") && i == 2 ? -1 : 0;
                numbers[i] = least + random.nextInt(mosts[i] - least + 1);
                if (random.nextInt(30) == 0) numbers[i] = random.nextBoolean() ? -1 : mosts[i] + 1;
                if (random.nextInt(60) == 0) numbers[i] = WILD[random.nextInt(WILD.length)];
            }
            if (method.getName().equals("sort") && random.nextInt(3) > 0) numbers[1] = 10 * (1 + random.nextInt(2)) + random.nextInt(4);
            return numbers;
        }

        private static int[] mosts(String name, Model x) {
            int sort = Math.max(0, x.count(1) - 1);
            int letter = Math.max(0, x.count(2) - 1);
            return switch (name) {
                case "row" -> new int[] {7, 2, 40};
                case "set" -> new int[] {7, 12, 300};
                case "copy" -> new int[] {7, 8, 7, 8, 8};
                case "drop" -> new int[] {7};
                case "feed" -> new int[] {255};
                case "word" -> new int[] {sort, 7, 4};
                case "length" -> new int[] {sort, 1, 9};
                case "become" -> new int[] {sort, 5};
                case "root" -> new int[] {1, 9};
                case "begin" -> new int[] {7, 8};
                case "sort" -> new int[] {sort, 24};
                case "letter" -> new int[] {letter};
                case "grown" -> new int[] {6, 40};
                case "origin" -> new int[] {6, 20, 6};
                case "place" -> new int[] {6, 40, 1};
                case "numbers" -> new int[] {sort, 60};
                case "share" -> new int[] {sort, 60, 1};
                case "all" -> new int[] {60, 1};
                case "whole" -> new int[] {6};
                case "back" -> new int[] {7, 12, 6};
                case "who" -> new int[] {sort, letter, 2, 6, 7, 8};
                case "sets" -> new int[] {30, 2};
                case "lost" -> new int[] {sort, 12, 10, 1};
                case "drawn" -> new int[] {30, 999999, 1};
                case "image", "restore" -> new int[] {1};
                case "kind" -> new int[] {sort};
                case "as" -> new int[] {sort, 5};
                case "ask" -> new int[] {sort, 1};
                case "trace" -> new int[] {8};
                case "count" -> new int[] {5};
                default -> new int[0];
            };
        }
    }
}
