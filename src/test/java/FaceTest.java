import java.io.IOException;
import java.lang.reflect.Constructor;
import java.lang.reflect.Field;
import java.lang.reflect.Method;
import java.lang.reflect.Modifier;
import java.nio.file.Files;
import java.nio.file.Path;
import java.util.HashSet;
import java.util.List;
import java.util.Set;
import java.util.TreeSet;
import java.util.regex.Matcher;
import java.util.regex.Pattern;

/** The document's face and nothing else; and the rules of LANGUAGE.md that can be seen from outside or in the text. */
public final class FaceTest {
    private static final Path SOURCE = Path.of("src/main/java/InflatedRows.java");
    private static final List<String> CALLS = List.of(
        "int row(int, int, int)", "int set(int, int, int)", "int copy(int, int, int, int, int)", "int drop(int)",
        "int feed(int)", "int book()", "int fault()", "int undo()", "int word(int, int, int)",
        "int length(int, int, int)", "int become(int, int)", "int root(int, int)", "int begin(int, int)",
        "int inflate()", "int sort(int, int)", "int letter(int)", "int grown(int, int)", "int origin(int, int, int)",
        "long place(int, int, int)", "long numbers(int, int)", "long share(int, int, int)", "long all(int, int)",
        "int whole(int)", "int back(int, int, int)", "int who(int, int, int, int, int, int)", "int quiet()",
        "int sets(int, int)", "long lost(int, int, int, int)", "int drawn(int, int, int)", "int image(int)",
        "int restore(int)", "int kind(int)", "int as(int, int)", "int ask(int, int)", "int trace(int)",
        "int count(int)", "int status()");
    private static final Due due = new Due();

    public static void main(String[] args) throws IOException {
        face();
        constants();
        classesInside();
        text();
        due.end("FaceTest");
    }

    private static void is(String what, boolean so) {
        due.is(what, so ? 1 : 0, 1);
    }

    private static String signature(Method method) {
        StringBuilder numbers = new StringBuilder();
        for (Class<?> type : method.getParameterTypes()) numbers.append(numbers.length() > 0 ? ", " : "").append(type);
        return method.getReturnType() + " " + method.getName() + "(" + numbers + ")";
    }

    private static void face() {
        Set<String> there = new TreeSet<>();
        for (Method method : InflatedRows.class.getDeclaredMethods()) {
            if (method.isSynthetic() || Modifier.isPrivate(method.getModifiers())) continue;
            is(method + " is public", Modifier.isPublic(method.getModifiers()));
            is(method + " is the object's", !Modifier.isStatic(method.getModifiers()));
            there.add(signature(method));
        }
        is("the calls are those of the document: " + there, there.equals(new TreeSet<>(CALLS)));
        is("the class is public and final", InflatedRows.class.getModifiers() == (Modifier.PUBLIC | Modifier.FINAL));
        Constructor<?>[] constructors = InflatedRows.class.getDeclaredConstructors();
        is("there is one constructor", constructors.length == 1);
        is("it is public, without numbers",
            constructors[0].getModifiers() == Modifier.PUBLIC && constructors[0].getParameterCount() == 0);
    }

    private static void constants() {
        due.is("NONE", InflatedRows.NONE, -1000000);
        due.is("BAD", InflatedRows.BAD, -1000001);
        due.is("STATE", InflatedRows.STATE, -1000002);
        due.is("FULL", InflatedRows.FULL, -1000003);
        Set<String> there = new TreeSet<>();
        for (Field field : InflatedRows.class.getDeclaredFields()) {
            if (!Modifier.isPrivate(field.getModifiers())) there.add(field.getName());
        }
        is("no other fields are seen: " + there, there.equals(Set.of("NONE", "BAD", "STATE", "FULL")));
    }

    private static void classesInside() {
        Set<String> publicNames = new HashSet<>();
        for (String call : CALLS) publicNames.add(call.substring(call.indexOf(' ') + 1, call.indexOf('(')));
        Class<?>[] inside = InflatedRows.class.getDeclaredClasses();
        is("twelve classes at most", inside.length + 1 <= 12);
        for (Class<?> one : inside) {
            is(one + " is static and not public",
                Modifier.isStatic(one.getModifiers()) && !Modifier.isPublic(one.getModifiers()));
            look(one, publicNames);
        }
        look(InflatedRows.class, publicNames);
    }

    private static void look(Class<?> one, Set<String> publicNames) {
        int fields = 0;
        for (Field field : one.getDeclaredFields()) {
            boolean fixed = Modifier.isStatic(field.getModifiers());
            is(field + " is final, if static", !fixed || Modifier.isFinal(field.getModifiers()));
            if (!fixed) fields++;
        }
        is(one + " has twenty fields at most", fields <= 20);
        for (Method method : one.getDeclaredMethods()) {
            is(method + " takes seven at most", method.getParameterCount() <= 7);
            boolean inFace = one == InflatedRows.class && Modifier.isPublic(method.getModifiers());
            is(method + " bears no name of the face", inFace || !publicNames.contains(method.getName()));
        }
    }

    private static void text() throws IOException {
        String source = Files.readString(SOURCE);
        is("signs 1 to 127 alone", source.chars().allMatch(c -> c > 0 && c < 128));
        String code = source.replaceAll("(?s)/\\*.*?\\*/", "").replaceAll("//[^\n]*", "");
        String[] forbidden = {
            "\\bthrow", "\\btry\\b", "\\bcatch\\b", "\\bsynchronized\\b", "\\bassert\\b", "->", "::", "\\bimport\\b",
            "\\bpackage\\b", "\\bstatic\\s*\\{", "Exact\\(", "\\bdouble\\b", "\\bfloat\\b", "\\bwhile\\b", "\"",
            "\\bprotected\\b", "\\bThread\\b", "\\.nano|\\.currentTime", "\\bObject\\b", "\\bequals\\b", "\\bhashCode\\b",
        };
        for (String word : forbidden) is("no " + word, !Pattern.compile(word).matcher(code).find());
        Matcher library = Pattern.compile("\\b(Math|Integer|Long|System|Arrays|String\\w*)\\.(\\w+)").matcher(code);
        Set<String> used = new TreeSet<>();
        while (library.find()) used.add(library.group());
        is("rule 4: of the library only its functions, and of these only some: " + used,
            Set.of("Integer.bitCount", "Math.min", "System.arraycopy").containsAll(used));
        methodsAreShort(code);
    }

    /** A class inside ends right behind its last method, so that its brace counts for that one. */
    private static void methodsAreShort(String code) {
        int lines = 0;
        for (String line : code.split("\n")) {
            lines = line.matches(" {4}( {4})?\\S.*\\) \\{") ? 0 : lines + 1;
            if (line.matches(" {4}( {4})?\\}")) is("a method of " + lines + " lines", lines <= 60);
        }
    }
}
