import java.io.IOException;
import java.lang.reflect.Field;
import java.lang.reflect.Method;
import java.lang.reflect.Modifier;
import java.nio.file.Files;
import java.nio.file.Path;
import java.util.ArrayList;
import java.util.List;
import java.util.Map;
import java.util.Set;
import java.util.TreeMap;
import java.util.TreeSet;
import java.util.regex.Matcher;
import java.util.regex.Pattern;

/** README.md: each call that it shows is made, and has to answer and to leave what README.md says. */
public final class ReadmeTest {
    private static final Due due = new Due();

    private static final String NEW = "RowsOfSigns x = new RowsOfSigns();";
    private static final Pattern CALL = Pattern.compile("x\\.(\\w+)\\((.*)\\); +// answers ([^\\s,;:]+)(.*)");
    private static final Pattern ROW = Pattern.compile("\\b(builder|text) (\\d) is (\"[^\"]*\"|missing)");
    private static final Pattern QUOTED = Pattern.compile("\"([^\"]*)\"");
    private static final Pattern CONSTANT = Pattern.compile("`([A-Z]+)`(?: \\||,) (-\\d+)");

    /** A call as README.md shows it: what it is told, what it has to answer, and what is said behind that. */
    private record Shown(String line, Method call, Object[] told, long answer, String said) {
        long on(RowsOfSigns x) throws ReflectiveOperationException {
            return ((Number) call.invoke(x, told)).longValue();
        }
    }

    public static void main(String[] args) throws IOException, ReflectiveOperationException {
        List<String> lines = Files.readAllLines(Path.of("README.md"));
        Set<String> names = new TreeSet<>();
        List<Shown> before = new ArrayList<>();
        for (String line : lines) {
            if (line.equals("    " + NEW)) {
                before.clear();
            } else if (line.contains("x.") && line.startsWith("    ")) {
                Shown shown = read(line.trim());
                look(before, shown);
                before.add(shown);
                names.add(shown.call().getName());
            }
        }
        due.is("README.md, the calls that it shows", names.toString(), publicCalls().keySet().toString());
        due.is("README.md, the constants", constantsShown(lines).toString(), constants().toString());
        due.end();
    }

    private static Map<String, Method> publicCalls() {
        Map<String, Method> all = new TreeMap<>();
        for (Method method : RowsOfSigns.class.getDeclaredMethods()) {
            if (Modifier.isPublic(method.getModifiers())) {
                all.put(method.getName(), method);
            }
        }
        return all;
    }

    private static Map<String, Integer> constants() throws ReflectiveOperationException {
        Map<String, Integer> all = new TreeMap<>();
        for (Field field : RowsOfSigns.class.getFields()) {
            all.put(field.getName(), field.getInt(null));
        }
        return all;
    }

    private static Map<String, Integer> constantsShown(List<String> lines) {
        Map<String, Integer> all = new TreeMap<>();
        for (String line : lines) {
            Matcher found = CONSTANT.matcher(line);
            while (found.find()) {
                all.put(found.group(1), Integer.valueOf(found.group(2)));
            }
        }
        return all;
    }

    private static Shown read(String line) throws ReflectiveOperationException {
        Matcher found = CALL.matcher(line);
        if (!found.matches() || !publicCalls().containsKey(found.group(1))) {
            throw new IllegalStateException("README.md shows a line that is no call with its answer: " + line);
        }
        Method call = publicCalls().get(found.group(1));
        Object[] told = told(call, found.group(2));
        return new Shown("README.md, " + line, call, told, number(found.group(3)), found.group(4));
    }

    private static Object[] told(Method call, String list) throws ReflectiveOperationException {
        // A sign that is a comma has a mark behind it, no blank.
        String[] words = list.isEmpty() ? new String[0] : list.split(", ");
        Object[] told = new Object[words.length];
        for (int i = 0; i < words.length; i++) {
            told[i] = value(call.getParameterTypes()[i], words[i]);
        }
        return told;
    }

    private static Object value(Class<?> type, String word) throws ReflectiveOperationException {
        if (type == boolean.class) {
            return word.equals("true");
        }
        if (type == long.class && word.endsWith("L")) {
            return number(word);
        }
        int number = Math.toIntExact(number(word));
        return type == long.class ? (Object) (long) number : (Object) number;
    }

    /** A number, a sign between two marks, or the name of a constant. */
    private static long number(String word) throws ReflectiveOperationException {
        if (word.matches("'.'")) {
            return word.charAt(1);
        }
        Integer constant = constants().get(word);
        return constant != null ? constant : Long.decode(word.replaceFirst("L$", ""));
    }

    private static RowsOfSigns made(List<Shown> calls) throws ReflectiveOperationException {
        RowsOfSigns x = new RowsOfSigns();
        for (Shown shown : calls) {
            shown.on(x);
        }
        return x;
    }

    private static void look(List<Shown> before, Shown shown) throws ReflectiveOperationException {
        RowsOfSigns x = made(before);
        due.is(shown.line(), shown.on(x), shown.answer());
        Matcher row = ROW.matcher(shown.said());
        while (row.find()) {
            int n = Integer.parseInt(row.group(2));
            String left = row.group(1).equals("text") ? Rows.text(x, n) : Rows.builder(x, n);
            due.is(shown.line(), left, row.group(3).equals("missing") ? "(missing)" : unquoted(row.group(3)));
        }
        if (shown.call().getName().equals("split") && shown.answer() >= 0) {
            due.is(shown.line(), Rows.parts(x), barred(shown.said()));
        } else if (shown.call().getName().equals("cutter")) {
            due.is(shown.line(), Rows.tokens(x, (int) shown.told()[0]), barred(shown.said()));
        }
    }

    private static String unquoted(String row) {
        return row.substring(1, row.length() - 1);
    }

    /** The rows in quotes, each between bars. */
    private static String barred(String said) {
        StringBuilder all = new StringBuilder();
        Matcher row = QUOTED.matcher(said);
        while (row.find()) {
            all.append('|').append(row.group(1));
        }
        return all.append('|').toString();
    }
}
