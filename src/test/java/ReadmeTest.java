import java.io.IOException;
import java.lang.reflect.Method;
import java.lang.reflect.Modifier;
import java.nio.file.Files;
import java.nio.file.Path;
import java.util.regex.Matcher;
import java.util.regex.Pattern;

/** README.md's run of calls answers what stands behind each call, and its table names every call of the face. */
public final class ReadmeTest {
    private static final Pattern CALL = Pattern.compile("bench\\.(\\w+)\\(([^)]*)\\); +// (-?\\w+)(:.*)?");

    private static int wrong = 0;
    private static int calls = 0;

    private static void due(String what, boolean holds) {
        if (!holds) {
            wrong++;
            System.out.println(what);
        }
    }

    private static Object argument(String text) {
        return text.equals("true") || text.equals("false") ? (Object) Boolean.valueOf(text) : Integer.valueOf(text);
    }

    private static Object answer(TimeBench bench, String name, String list) throws ReflectiveOperationException {
        String[] texts = list.isEmpty() ? new String[0] : list.split(", ");
        Object[] arguments = new Object[texts.length];
        Class<?>[] types = new Class<?>[texts.length];
        for (int i = 0; i < texts.length; i++) {
            arguments[i] = argument(texts[i]);
            types[i] = arguments[i] instanceof Boolean ? boolean.class : int.class;
        }
        return TimeBench.class.getMethod(name, types).invoke(bench, arguments);
    }

    private static void example(String block) throws ReflectiveOperationException {
        String[] lines = block.strip().split("\n");
        due("the example begins with a new bench", lines[0].equals("TimeBench bench = new TimeBench();"));
        TimeBench bench = new TimeBench();
        for (int i = 1; i < lines.length; i++) {
            Matcher line = CALL.matcher(lines[i]);
            if (!line.matches()) {
                due("no call and its answer: " + lines[i], false);
                continue;
            }
            calls++;
            String got = answer(bench, line.group(1), line.group(2)).toString();
            due(lines[i] + " answered " + got, got.equals(line.group(3)));
        }
    }

    private static void table(String readme) {
        for (Method m : TimeBench.class.getDeclaredMethods()) {
            if (Modifier.isPublic(m.getModifiers())) {
                Pattern row = Pattern.compile("^\\|.*`" + m.getName() + "\\(", Pattern.MULTILINE);
                due("the table has no " + m.getName(), row.matcher(readme).find());
            }
        }
    }

    public static void main(String[] args) throws IOException, ReflectiveOperationException {
        String readme = Files.readString(Path.of("README.md"));
        String[] parts = readme.split("```(java)?\n");
        due("one example", parts.length == 3);
        if (parts.length == 3) {
            example(parts[1]);
        }
        table(readme);
        System.out.println("ReadmeTest: " + calls + " calls, " + wrong + " wrong");
        if (wrong != 0 || calls == 0) {
            System.exit(1);
        }
    }
}
