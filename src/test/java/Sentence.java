import java.io.IOException;
import java.nio.file.Files;
import java.nio.file.Path;
import java.util.ArrayList;
import java.util.HashMap;
import java.util.List;
import java.util.Map;

/** The words of the document, each with a test of its own; what no test quotes is told at the end. */
final class Sentence {
    private static final Path DOCUMENT = Path.of("../shared/DOC.md");
    private static final Map<String, List<String>> QUOTED = new HashMap<>();

    private Sentence() {
    }

    /** Words of one of the parts 1 to 4 of "Terms". */
    static void term(int part, String words, Runnable test) {
        says("Terms " + part, words, test);
    }

    static void promise(int number, String words, Runnable test) {
        says("Promise " + number, words, test);
    }

    private static void says(String section, String words, Runnable test) {
        QUOTED.computeIfAbsent(section, s -> new ArrayList<>()).add(words);
        Due.about(section + " '" + words + "': ");
        int before = Due.asked();
        test.run();
        Due.is("something is asked", Due.asked() > before, true);
        Due.about("");
    }

    /** Told alone, never a failure: the document may be worded anew while what it asks stays. */
    static void compareWithDocument() throws IOException {
        if (!Files.exists(DOCUMENT)) {
            return;
        }
        Map<String, String> sections = sections(Files.readString(DOCUMENT));
        for (Map.Entry<String, List<String>> e : QUOTED.entrySet()) {
            String text = sections.getOrDefault(e.getKey(), "");
            for (String words : e.getValue()) {
                if (!text.contains(words)) {
                    System.out.println("not in the document, " + e.getKey() + ": " + words);
                }
            }
        }
        sections.forEach((section, text) -> tellUnquoted(section, text, QUOTED.getOrDefault(section, List.of())));
    }

    private static void tellUnquoted(String section, String text, List<String> quoted) {
        boolean[] covered = new boolean[text.length()];
        for (String words : quoted) {
            for (int at = text.indexOf(words); at >= 0; at = text.indexOf(words, at + 1)) {
                for (int k = at; k < at + words.length(); k++) {
                    covered[k] = true;
                }
            }
        }
        StringBuilder left = new StringBuilder();
        for (int k = 0; k <= text.length(); k++) {
            if (k < text.length() && !covered[k]) {
                left.append(text.charAt(k));
            } else {
                if (left.toString().matches("(?s).*\\w.*")) {
                    System.out.println("no test quotes, " + section + ": " + left.toString().strip());
                }
                left.setLength(0);
            }
        }
    }

    private static Map<String, String> sections(String document) {
        Map<String, String> found = new HashMap<>();
        String section = "";
        StringBuilder text = new StringBuilder();
        for (String line : document.replace("```text", "").replace("```", "").replaceAll("==== (\\d)\\.", "\n==== $1.\n").split("\n")) {
            String next = null;
            if (line.startsWith("## Promise ")) {
                next = "Promise " + line.substring(11, line.indexOf(':'));
            } else if (line.equals("## Terms")) {
                next = "Terms 1";
            } else if (line.startsWith("==== ") && section.startsWith("Terms")) {
                next = "Terms " + line.substring(5, 6);
            } else if (line.startsWith("#")) {
                next = "";
            }
            if (next == null) {
                text.append(line.replaceFirst("^`[^`]*`: ", "")).append(' ');
                continue;
            }
            found.put(section, text.toString().replaceAll("\\s+", " "));
            section = next;
            text.setLength(0);
        }
        found.put(section, text.toString().replaceAll("\\s+", " "));
        found.remove("");
        return found;
    }
}
