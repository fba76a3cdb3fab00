import java.io.IOException;
import java.nio.file.Files;
import java.nio.file.Path;
import java.util.ArrayList;
import java.util.LinkedHashMap;
import java.util.List;
import java.util.Map;
import java.util.Set;

/**
 * The document's sentences by sections: those that name a boundary case, each with its own test, and
 * those that name none. Together they must be the whole document, so that none is left out.
 */
final class Sentences {
    private static final Set<String> NOT_COMPARED = Set.of("The public face", "Not promised");

    private final Check check;
    private final Map<String, List<String>> quoted = new LinkedHashMap<>();
    private String section = "";

    Sentences(Check check) {
        this.check = check;
    }

    void section(String heading) {
        section = heading;
        quoted.computeIfAbsent(heading, h -> new ArrayList<>());
    }

    /** Begins the test of a sentence, which is given word by word. */
    Check test(String words) {
        quoted.get(section).add(words);
        check.begin(section + ", \"" + words + "\"");
        return check;
    }

    /** A sentence that names no boundary case. */
    void plain(String words) {
        quoted.get(section).add(words);
    }

    void compareWith(Path document) throws IOException {
        check.begin("");
        if (!Files.exists(document)) {
            System.out.println("the sentences are not compared: there is no " + document);
            return;
        }
        Map<String, String> sections = read(document);
        check.holds("the document has sections", sections.size() > 30);
        for (String heading : sections.keySet()) {
            if (!NOT_COMPARED.contains(heading)) {
                compare(heading, sections.get(heading));
            }
        }
    }

    private void compare(String heading, String words) {
        String left = words;
        for (String sentence : quoted.getOrDefault(heading, List.of())) {
            int at = left.indexOf(sentence);
            check.holds("in the section '" + heading + "' stands: " + sentence, at >= 0);
            if (at >= 0) {
                left = left.substring(0, at) + " | " + left.substring(at + sentence.length());
            }
        }
        boolean whole = left.chars().noneMatch(Character::isLetterOrDigit);
        check.holds("all sentences of '" + heading + "' have their test, but for: " + left, whole);
    }

    /** The words of each section, with one blank between them, without headings and signatures. */
    private static Map<String, String> read(Path document) throws IOException {
        Map<String, String> sections = new LinkedHashMap<>();
        String heading = "";
        for (String line : Files.readAllLines(document)) {
            if (line.startsWith("## ")) {
                heading = line.substring(3).strip();
                sections.put(heading, "");
            }
            boolean signature = line.matches("`(int|long) .*\\)`|`RumourSource\\(\\)`");
            boolean words = !line.startsWith("#") && !line.startsWith("----") && !signature;
            if (words && !heading.isEmpty()) {
                sections.merge(heading, " " + line.strip(), String::concat);
            }
        }
        sections.replaceAll((h, words) -> words.replaceAll("\\s+", " ").strip());
        return sections;
    }
}
