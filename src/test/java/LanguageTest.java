import java.io.IOException;
import java.lang.reflect.Field;
import java.lang.reflect.Method;
import java.lang.reflect.Modifier;
import java.nio.file.Files;
import java.nio.file.Path;
import java.util.ArrayList;
import java.util.Arrays;
import java.util.List;
import java.util.regex.Matcher;
import java.util.regex.Pattern;

/** The rules of ../shared/LANGUAGE.md, as far as words and shapes show whether they are kept. */
public final class LanguageTest {
    private static final Due due = new Due();

    /** A rule's number, and what it does not let stand in the source. */
    private static final String[][] FORBIDDEN = {
        {"1", "\\bpackage\\b"},
        {"2", "::"},
        {"2", "(?m)^(?!\\s*(case\\b|default\\b)).*->"},
        {"3", "[^\\x00-\\x7F]"},
        {"3", "\\bObject\\b"},
        {"4", "\\bMath\\.(\\w*Exact|random)\\b"},
        {"4", "\\bSystem\\.(?!arraycopy\\b)"},
        {"6", "\\b(throw|throws|try|catch|finally|synchronized|assert)\\b"},
        {"6", "\\b(boolean equals|int hashCode|String toString)\\s*\\("},
        {"13", "\\b(Random|Thread|File|Files|Path|Socket|Instant|LocalDate|LocalTime)\\b"}};

    public static void main(String[] args) throws IOException {
        String code = Files.readString(Path.of("src/main/java/RowsOfSigns.java"))
                .replaceAll("(?s)/\\*.*?\\*/", " ").replaceAll("//[^\n]*", " ");
        for (String[] rule : FORBIDDEN) {
            Matcher found = Pattern.compile(rule[1]).matcher(code);
            due.is("rule " + rule[0] + ", the first of " + rule[1], found.find() ? found.group() : "", "");
        }
        shapes();
        due.end();
    }

    private static void shapes() {
        List<Class<?>> all = new ArrayList<>(Arrays.asList(RowsOfSigns.class.getDeclaredClasses()));
        all.add(RowsOfSigns.class);
        due.is("rule 11, not more than twelve classes", all.size() <= 12 ? 1 : 0, 1);
        for (Class<?> type : all) {
            int fields = 0;
            for (Field field : type.getDeclaredFields()) {
                boolean isStatic = Modifier.isStatic(field.getModifiers());
                fields += isStatic ? 0 : 1;
                due.is("rule 5, " + field, isStatic && !Modifier.isFinal(field.getModifiers()) ? 1 : 0, 0);
            }
            due.is("rule 11, the fields of " + type, fields <= 20 ? 1 : 0, 1);
            for (Method method : type.getDeclaredMethods()) {
                due.is("rule 11, the parameters of " + method, method.getParameterCount() <= 7 ? 1 : 0, 1);
            }
        }
    }
}
