import java.io.IOException;
import java.lang.reflect.Field;
import java.lang.reflect.Method;
import java.lang.reflect.Modifier;
import java.nio.file.Files;
import java.nio.file.Path;
import java.util.Map;
import java.util.Set;
import java.util.TreeMap;
import java.util.TreeSet;
import java.util.regex.Matcher;
import java.util.regex.Pattern;

/** The public face by reflection, and those rules of LANGUAGE.md that can be read off the text. */
public final class LanguageTest {
    private static final String[] FACE = {
        "int put(int, int, int, int)", "int lift(int)", "int kind(int)", "int read(int, int)", "int back(int, int)",
        "int tear(int)", "int way(int, int)", "int tells(int, int)", "int difference(int, int, int)",
        "int along(int, int, int)", "int link(int)", "int take(int)", "int leave(int)", "int call(int, boolean)",
        "int steer(int, int)", "boolean set(int, int)", "int close()", "int hour()", "int clock(int, int)",
        "int foretell(int)", "int slope(int, int)", "int weight(int)", "int as(int, int, int)", "int paper(int, int)",
        "int step(int, int)", "boolean show(int)", "int off()", "int ring(int, int, int, int)"};
    private static final String[] FORBIDDEN = {
        "\\b(throw|throws|try|catch|finally|synchronized|assert|native|volatile|transient)\\b", "->", "::",
        "\\b(Object|Exception|Throwable|Error|System|Thread|Class|Random|Date|Stream|Map|HashMap|Set)\\b",
        "Exact\\(", "\\bNaN\\b", "^package ", "\\bstatic \\{"};

    private static final Pattern METHOD = Pattern.compile(
            " +(?:public |private |static )*(?:int|long|boolean|void|[A-Z]\\w*) (\\w+)\\([^)]*\\) \\{");
    // A library's method is called behind its class's name, and counts as none of the program's.
    private static final Pattern CALL = Pattern.compile("(?<!Math\\.)(?<!Arrays\\.)\\b([a-z]\\w*)\\(");

    private static int wrong = 0;

    private static void due(String what, boolean holds) {
        if (!holds) {
            wrong++;
            System.out.println(what);
        }
    }

    private static String signature(Method m) {
        StringBuilder text = new StringBuilder(m.getReturnType().getName() + " " + m.getName() + "(");
        for (Class<?> type : m.getParameterTypes()) {
            text.append(text.charAt(text.length() - 1) == '(' ? "" : ", ").append(type.getName());
        }
        return text.append(")").toString();
    }

    private static void face() {
        Set<String> publicOnes = new TreeSet<>();
        Set<String> names = new TreeSet<>();
        for (Method m : TimeBench.class.getDeclaredMethods()) {
            if (Modifier.isPublic(m.getModifiers())) {
                publicOnes.add(signature(m));
                names.add(m.getName());
            }
        }
        due("the public methods are " + publicOnes, publicOnes.equals(new TreeSet<>(Set.of(FACE))));
        for (Method m : TimeBench.class.getDeclaredMethods()) {
            due(m + " may not stand there", Modifier.isPublic(m.getModifiers())
                    || Modifier.isPrivate(m.getModifiers()) && !names.contains(m.getName()));
            due(m + " takes too many", m.getParameterCount() <= 7);
        }
        due("TimeBench is public and final", TimeBench.class.getModifiers() == (Modifier.PUBLIC | Modifier.FINAL));
        due("one constructor", TimeBench.class.getDeclaredConstructors().length == 1);
        for (Field f : TimeBench.class.getDeclaredFields()) {
            boolean isConstant = f.getName().equals("NONE") || f.getName().equals("WRONG");
            due(f + " in the face", Modifier.isPublic(f.getModifiers()) == isConstant);
            due(f + " is private", isConstant || Modifier.isPrivate(f.getModifiers()));
        }
        innerClasses(names);
    }

    private static void innerClasses(Set<String> publicNames) {
        Class<?>[] inner = TimeBench.class.getDeclaredClasses();
        due("at most some twelve classes", inner.length < 12);
        for (Class<?> c : inner) {
            int fields = 0;
            due(c + " is static", Modifier.isStatic(c.getModifiers()));
            due(c + " is not public", !Modifier.isPublic(c.getModifiers()));
            for (Field f : c.getDeclaredFields()) {
                fields += Modifier.isStatic(f.getModifiers()) ? 0 : 1;
                due(f + " is static, not final",
                        !Modifier.isStatic(f.getModifiers()) || Modifier.isFinal(f.getModifiers()));
            }
            due(c + " has many fields", fields <= 20);
            for (Method m : c.getDeclaredMethods()) {
                due(m + " bears a public name",
                        !Modifier.isPrivate(m.getModifiers()) || !publicNames.contains(m.getName()));
            }
        }
    }

    private static void text(String source) {
        String code = source.replaceAll("(?s)/\\*.*?\\*/", " ").replaceAll("//[^\\n]*", " ");
        for (String pattern : FORBIDDEN) {
            Matcher found = Pattern.compile(pattern, Pattern.MULTILINE).matcher(code);
            due("forbidden: " + pattern, !found.find());
        }
        Matcher imports = Pattern.compile("import ([^;]*);").matcher(code);
        while (imports.find()) {
            due("import " + imports.group(1), imports.group(1).equals("java.util.Arrays"));
        }
        for (int i = 0; i < source.length(); i++) {
            due("a character that is not ASCII", source.charAt(i) < 128);
        }
        due("texts joined by +", !Pattern.compile("\"\\s*\\+|\\+\\s*\"").matcher(code).find());
        methods(code.split("\n"));
        depths(code);
    }

    /** Rules 8 and 11 by the methods' names: those of one name count as one, so this never counts too few. */
    private static void depths(String code) {
        Map<String, Set<String>> called = new TreeMap<>();
        String name = null;
        for (String line : code.split("\n")) {
            Matcher head = METHOD.matcher(line);
            if (head.matches()) {
                name = head.group(1);
                called.computeIfAbsent(name, n -> new TreeSet<>());
                continue;
            }
            Matcher call = CALL.matcher(line);
            while (name != null && call.find()) {
                called.get(name).add(call.group(1));
            }
        }
        due("all methods are found: " + called.keySet(), called.keySet().containsAll(faceNames()));
        for (String method : called.keySet()) {
            due(method + " goes too deep or calls itself", depth(method, called, 1) <= 8);
        }
    }

    private static Set<String> faceNames() {
        Set<String> names = new TreeSet<>();
        for (String signature : FACE) {
            names.add(signature.replaceAll(".* (\\w+)\\(.*", "$1"));
        }
        return names;
    }

    private static int depth(String method, Map<String, Set<String>> called, int level) {
        int deepest = level;
        for (String next : called.get(method)) {
            if (level <= 8 && called.containsKey(next)) {
                deepest = Math.max(deepest, depth(next, called, level + 1));
            }
        }
        return deepest;
    }

    private static void methods(String[] lines) {
        int start = -1;
        for (int i = 0; i < lines.length; i++) {
            if (lines[i].matches("( {4}| {8})[A-Za-z].*\\) \\{")) {
                start = i;
            } else if (start >= 0 && lines[i].matches("( {4}| {8})\\}")) {
                due("a long method: " + lines[start], i - start <= 60);
                start = -1;
            }
            due("a long line: " + lines[i], lines[i].length() <= 120);
        }
    }

    public static void main(String[] args) throws IOException {
        face();
        text(Files.readString(Path.of("src/main/java/TimeBench.java")));
        System.out.println("LanguageTest: " + wrong + " wrong");
        if (wrong != 0) {
            System.exit(1);
        }
    }
}
