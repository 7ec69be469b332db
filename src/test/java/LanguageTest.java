import java.io.IOException;
import java.nio.file.Files;
import java.nio.file.Path;
import java.util.regex.Matcher;
import java.util.regex.Pattern;

/** What of ../shared/LANGUAGE.md can be seen from the words of the source alone. */
public final class LanguageTest {
    private static final Due due = new Due();

    private static final String[] FORBIDDEN = {
        "\\b(throw|throws|try|catch|finally|synchronized|assert|import|package|protected)\\b",
        "\\b(System\\.(out|err|exit|currentTimeMillis|nanoTime|getenv|getProperty|in))\\b",
        "\\b(Random|Thread|File|Files|Object|Math\\.\\w*Exact|Math\\.random|hashCode|toString)\\b",
        "->", "::", "[^\\x00-\\x7F]"};

    public static void main(String[] args) throws IOException {
        String code = Files.readString(Path.of("src/main/java/RowsOfSigns.java"))
                .replaceAll("(?s)/\\*.*?\\*/", " ").replaceAll("//[^\n]*", " ");
        for (String pattern : FORBIDDEN) {
            Matcher found = Pattern.compile(pattern).matcher(code);
            due.is("the first of " + pattern, found.find() ? found.group() : "", "");
        }
        nothingIsMadeByCalls(code);
        due.end();
    }

    /** All calls of a run share one room, so rows are made with the object and used again. */
    private static void nothingIsMadeByCalls(String code) {
        boolean inConstructor = false;
        for (String line : code.split("\n")) {
            if (line.matches("    \\S.*\\{")) {
                inConstructor = line.contains("public RowsOfSigns()");
            }
            boolean makes = line.matches(".*\\bnew\\b.*");
            boolean field = line.matches("\\s+private final \\S+ \\w+ = new .*");
            due.is("made by a call: " + line.trim(), makes && !field && !inConstructor ? 1 : 0, 0);
        }
    }
}
