import java.io.IOException;
import java.nio.file.Files;
import java.nio.file.Path;
import java.util.ArrayList;
import java.util.LinkedHashMap;
import java.util.List;
import java.util.Map;

/** What some sections of the document say, and what of it no test has named yet. */
final class Sentences {
    private static final Path DOCUMENT = Path.of("../shared/DOC.md");

    private final Map<String, String> untested = new LinkedHashMap<>();
    private final List<String> faults = new ArrayList<>();

    /** A section is named by its heading, up to the colon. */
    Sentences(String... sections) {
        Map<String, String> all = read();
        for (String section : sections) {
            if (!all.isEmpty()) {
                untested.put(section, all.getOrDefault(section, ""));
            }
        }
    }

    /** Nothing, where there is no document: the answers are looked at without it. */
    private static Map<String, String> read() {
        Map<String, String> all = new LinkedHashMap<>();
        if (!Files.exists(DOCUMENT)) {
            return all;
        }
        String section = "";
        for (String line : lines()) {
            if (line.startsWith("## ")) {
                section = line.substring(3).split(":")[0].trim();
            } else if (!isHeading(line)) {
                String said = section.startsWith("Promise") ? line.replaceFirst("^`[^`]*`: ", "") : line;
                all.merge(section, said, (before, now) -> before + " " + now);
            }
        }
        return all;
    }

    private static List<String> lines() {
        try {
            return Files.readAllLines(DOCUMENT);
        } catch (IOException e) {
            throw new IllegalStateException(e);
        }
    }

    /** Also the lines that tell where the headings of the interface stand. */
    private static boolean isHeading(String line) {
        return line.startsWith("#") || line.matches("[0-9] .*") || line.startsWith("Ahead of the calls");
    }

    /** A test is of this sentence, or of a part of one. */
    void tested(String section, String sentence) {
        String rest = untested.get(section);
        if (rest == null) {
            return;
        }
        int at = rest.indexOf(sentence);
        if (at < 0) {
            faults.add(section + " does not say, or not once more: " + sentence);
        } else {
            untested.put(section, rest.substring(0, at) + " / " + rest.substring(at + sentence.length()));
        }
    }

    /** What the tests say and the document does not, and what no test is of. */
    List<String> faults() {
        List<String> all = new ArrayList<>(faults);
        for (Map.Entry<String, String> entry : untested.entrySet()) {
            if (!entry.getValue().replaceAll("[^A-Za-z0-9]", "").isEmpty()) {
                all.add("no test is of this in " + entry.getKey() + ": " + entry.getValue().replaceAll("( /)+", " /"));
            }
        }
        return all;
    }
}
