import java.nio.file.Files;
import java.nio.file.Path;
import java.util.ArrayList;
import java.util.LinkedHashMap;
import java.util.List;
import java.util.Map;
import java.util.regex.Matcher;
import java.util.regex.Pattern;

/**
 * The sentences of the document that name boundary cases: the tests of edges say which one they look at, and it is
 * checked that it stands there word for word, and that none is left without a test.
 */
final class Sentence {
    /** What names a boundary: a range, a limit, a refused call, another answer below 0, an empty or missing thing. */
    private static final Pattern[] BOUNDARIES = {
        Pattern.compile("Refused: [^.]*\\."),
        Pattern.compile("(NONE: |NONE for )[^.;]*[.;]"),
        Pattern.compile("-[1-9]: [^.;:)]*"),
        Pattern.compile("-[0-9]+ - p: [^.;:]*"),
        Pattern.compile("NoSuchElementException: [^.]*\\."),
        Pattern.compile("\\([^()]*[0-9] \\.\\. [0-9]+[^()]*\\)"),
        Pattern.compile("\\([^()]*at most[^()]*\\)"),
        Pattern.compile("\\((an empty|0 and|nothing|cut|its own|of equal|of like|of as|nothing without)[^()]*\\)"),
        Pattern.compile("of (equal|like|as many|as good) ones the [a-z]+"),
        Pattern.compile("nothing changes|nothing is done then|Nothing of it comes, if a LINE can't")};

    private static final Map<String, List<String>> QUOTED = new LinkedHashMap<>();

    private Sentence() {
    }

    /** From here on answers are asked for by this sentence of a promise. */
    static void of(int promise, String words) {
        look("Promise " + promise, words);
    }

    static void ofTerms(String words) {
        look("Terms", words);
    }

    static void ofWhatItIs(String words) {
        look("What it is", words);
    }

    private static void look(String part, String words) {
        QUOTED.computeIfAbsent(part, p -> new ArrayList<>()).add(words);
        Check.heading(part + ", \"" + words + "\": ");
    }

    /** All that was quoted stands in the document, and all boundaries that it names were quoted. */
    static void compareWithDocument(Path document) throws Exception {
        Check.heading("");
        Map<String, String> parts = partsOf(Files.readString(document));
        for (Map.Entry<String, List<String>> quoted : QUOTED.entrySet()) {
            String text = parts.getOrDefault(quoted.getKey(), "");
            for (String words : quoted.getValue()) {
                Check.due(quoted.getKey() + " says \"" + words + "\"", text.contains(words), true);
            }
        }
        for (int i = 1; i <= 46; i++) {
            String part = "Promise " + i;
            List<String> quotes = QUOTED.getOrDefault(part, List.of());
            Check.due(part + " has a sentence that is tested", quotes.size() > 0, true);
            for (Pattern boundary : BOUNDARIES) {
                Matcher found = boundary.matcher(parts.getOrDefault(part, ""));
                while (found.find()) {
                    String words = found.group();
                    boolean tested = quotes.stream().anyMatch(q -> q.contains(words) || words.contains(q));
                    Check.due(part + " has a test of \"" + words + "\"", tested, true);
                }
            }
        }
    }

    private static Map<String, String> partsOf(String document) {
        Map<String, String> parts = new LinkedHashMap<>();
        for (String part : document.split("(?m)^## ")) {
            String heading = part.split("[:\n]", 2)[0];
            parts.put(heading, part.replaceAll("\\s+", " "));
        }
        return parts;
    }
}
