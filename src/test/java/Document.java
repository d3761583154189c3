import java.io.IOException;
import java.nio.charset.StandardCharsets;
import java.nio.file.Files;
import java.nio.file.Path;
import java.util.ArrayList;
import java.util.HashSet;
import java.util.LinkedHashMap;
import java.util.List;
import java.util.Map;
import java.util.Set;
import java.util.regex.Pattern;

/**
 * The sentences of ../shared/DOC.md, by section. A test of a boundary case quotes the sentence that
 * names it, so that its failures tell the sentence, and so that no such sentence stays untested.
 */
final class Document {
    private static final List<String> TERMS = List.of("Printers and watermarks", "Clues", "Candidates",
            "Configuration text", "Commands", "Undo");
    // In the promises, a sentence without one of these tells what is asked for, and no boundary case.
    private static final Pattern BOUNDARY = Pattern.compile("\\d|NONE|empty|any number|smallest|previous|after that"
            + "|\\b(if|not|no|[Nn]othing|everything|also|always|false|kept|keeps|most recent)\\b");

    private static final Map<String, List<String>> SENTENCES = sentences();
    private static final Set<String> TESTED = new HashSet<>();

    private Document() {
    }

    /** The tests that follow are about a sentence of a promise, or a part of it. */
    static void about(int promise, String words) {
        about("Promise " + promise, words);
    }

    static void about(String section, String words) {
        Check.topic(section + ", \"" + words + "\": ");
        boolean isThere = false;
        for (String sentence : SENTENCES.getOrDefault(section, List.of())) {
            if (sentence.contains(words)) {
                isThere = true;
                TESTED.add(section + ": " + sentence);
            }
        }
        Check.due("the document says it", isThere, true);
    }

    /** Fails for each sentence of the promises that names a boundary case and has not been tested. */
    static void wasTested(int fromPromise, int toPromise) {
        for (int promise = fromPromise; promise <= toPromise; promise++) {
            wasTested("Promise " + promise);
        }
    }

    static void wasTested(String section) {
        Check.topic("");
        List<String> sentences = SENTENCES.getOrDefault(section, List.of());
        Check.due(section + " is a section of the document", !sentences.isEmpty(), true);
        for (String sentence : sentences) {
            boolean hasBoundary = TERMS.contains(section) || BOUNDARY.matcher(sentence).find();
            boolean isTested = TESTED.contains(section + ": " + sentence);
            Check.due(section + ", \"" + sentence + "\" is tested", !hasBoundary || isTested, true);
        }
    }

    private static Map<String, List<String>> sentences() {
        Map<String, List<String>> found = new LinkedHashMap<>();
        String section = "";
        for (String line : lines()) {
            if (line.startsWith("## Promise ")) {
                section = line.substring(3, line.indexOf(':'));
            } else if (line.startsWith("## ") || line.startsWith("The constants: ")) {
                section = "";
            } else if (TERMS.contains(line)) {
                section = line;
            } else if (!line.isEmpty()) {
                found.computeIfAbsent(section, name -> new ArrayList<>()).addAll(split(line));
            }
        }
        return found;
    }

    // A line of a promise may begin with the declaration of the method and a colon.
    private static List<String> split(String line) {
        String told = line.startsWith("`") ? line.substring(line.indexOf("`: ") + 3) : line;
        return List.of(told.split("(?<=[.)]) (?=[A-Z(])"));
    }

    private static List<String> lines() {
        try {
            return Files.readAllLines(Path.of("../shared/DOC.md"), StandardCharsets.UTF_8);
        } catch (IOException e) {
            throw new IllegalStateException(e);
        }
    }
}
