import java.lang.reflect.Field;
import java.lang.reflect.Method;
import java.lang.reflect.Modifier;
import java.nio.file.Files;
import java.nio.file.Path;
import java.util.ArrayList;
import java.util.List;
import java.util.regex.Matcher;
import java.util.regex.Pattern;

/** README.md tells the truth: its example answers as its rows say, and it names every call and constant. */
public final class ReadmeTest {
    private static final String MAKING = "StreamQuery q = new StreamQuery();";
    private static final Pattern CALL = Pattern.compile("q\\.(\\w+)\\(([^)]*)\\); *// (-?\\w+): .+");

    public static void main(String[] args) throws Exception {
        List<String> lines = Files.readAllLines(Path.of("README.md"));
        int wrong = wrongRows(exampleOf(lines)) + unnamed(String.join("\n", lines));
        System.out.println(wrong == 0 ? "README.md is as the class" : wrong + " faults in README.md");
        if (wrong != 0) {
            System.exit(1);
        }
    }

    private static List<String> exampleOf(List<String> lines) {
        List<String> rows = new ArrayList<>();
        boolean inside = false;
        for (String line : lines) {
            if (line.startsWith("```")) {
                inside = line.equals("```java");
            } else if (inside) {
                rows.add(line);
            }
        }
        return rows;
    }

    private static int wrongRows(List<String> rows) throws ReflectiveOperationException {
        if (rows.size() < 2 || !rows.get(0).equals(MAKING)) {
            System.out.println("the example does not begin with: " + MAKING);
            return 1;
        }
        StreamQuery query = new StreamQuery();
        int wrong = 0;
        for (String row : rows.subList(1, rows.size())) {
            wrong += holds(query, row) ? 0 : 1;
        }
        return wrong;
    }

    private static boolean holds(StreamQuery query, String row) throws ReflectiveOperationException {
        Matcher call = CALL.matcher(row);
        if (!call.matches()) {
            System.out.println("no call with its answer: " + row);
            return false;
        }
        String got = String.valueOf(answer(query, call.group(1), call.group(2)));
        String due = numberOf(call.group(3));
        if (!got.equals(due)) {
            System.out.println("answered " + got + ": " + row);
            return false;
        }
        return true;
    }

    private static Object answer(StreamQuery query, String name, String arguments) throws ReflectiveOperationException {
        String[] texts = arguments.isEmpty() ? new String[0] : arguments.split(", ");
        Class<?>[] types = new Class<?>[texts.length];
        Object[] numbers = new Object[texts.length];
        for (int n = 0; n < texts.length; n++) {
            types[n] = int.class;
            numbers[n] = Integer.valueOf(texts[n]);
        }
        return StreamQuery.class.getMethod(name, types).invoke(query, numbers);
    }

    /** The number that a constant of the class stands for; any other word stands for itself. */
    private static String numberOf(String word) throws IllegalAccessException {
        for (Field constant : StreamQuery.class.getFields()) {
            if (constant.getName().equals(word)) {
                return String.valueOf(constant.getInt(null));
            }
        }
        return word;
    }

    private static int unnamed(String text) throws IllegalAccessException {
        List<String> rows = new ArrayList<>();
        for (Method call : StreamQuery.class.getDeclaredMethods()) {
            if (Modifier.isPublic(call.getModifiers())) {
                rows.add("\n| `" + call.getName() + "(");
            }
        }
        for (Field constant : StreamQuery.class.getFields()) {
            rows.add("\n| `" + constant.getName() + "` | " + constant.getInt(null) + " |");
        }
        int missing = 0;
        for (String row : rows) {
            if (!text.contains(row)) {
                System.out.println("README.md has no row that begins with: " + row.strip());
                missing++;
            }
        }
        return missing;
    }
}
