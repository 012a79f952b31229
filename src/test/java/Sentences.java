import java.io.IOException;
import java.nio.file.Files;
import java.nio.file.Path;
import java.util.ArrayList;
import java.util.LinkedHashMap;
import java.util.List;
import java.util.Map;

/**
 * The sentences of the document, each with a test of its own: a test names the words that it is
 * about, and these must stand in the document, so that a sentence that was changed is noticed.
 */
final class Sentences {
    private final Map<String, String> sections = new LinkedHashMap<>();
    private final Map<String, List<String>> tested = new LinkedHashMap<>();
    private String section = "";
    private int tests = 0;

    Sentences(Path document) throws IOException {
        String name = "";
        for (String line : Files.readAllLines(document)) {
            boolean heading = line.startsWith("## ") || line.matches("[A-Z]{4}[A-Z ]*");
            if (heading) {
                name = line.replace("## ", "");
            } else {
                sections.merge(name, plain(line) + "\n", String::concat);
            }
        }
    }

    private static String plain(String line) {
        return line.replaceFirst("^- ", "").trim();
    }

    /** The tests that follow are about this section. */
    void in(String name) {
        section = name;
        if (!sections.containsKey(name)) {
            Checks.fault("the document has no section " + name);
        }
    }

    void holds(String words, Runnable test) {
        tests++;
        Checks.setTopic(section + ", \"" + words + "\": ");
        if (!joined(section).contains(words)) {
            Checks.fault("these words are not in the document");
        }
        tested.computeIfAbsent(section, s -> new ArrayList<>()).add(words);
        try {
            test.run();
        } catch (RuntimeException e) {
            Checks.fault("the test was ended by " + e);
        }
        Checks.setTopic("");
    }

    private String joined(String name) {
        return sections.getOrDefault(name, "").replace("\n", " ");
    }

    int tests() {
        return tests;
    }

    /** For reading: what no test has named, to see that no boundary case is left out. */
    void tellUntested() {
        for (String name : sections.keySet()) {
            String text = sections.get(name);
            String flat = joined(name);
            boolean[] named = new boolean[flat.length()];
            for (String words : tested.getOrDefault(name, List.of())) {
                int start = Math.max(0, flat.indexOf(words));
                for (int k = start; k < start + words.length() && k < flat.length(); k++) {
                    named[k] = true;
                }
            }
            tellUnnamed(name, text, named);
        }
    }

    private static void tellUnnamed(String name, String text, boolean[] named) {
        StringBuilder rest = new StringBuilder();
        for (int k = 0; k < text.length(); k++) {
            rest.append(named[k] ? '\n' : text.charAt(k));
        }
        for (String part : rest.toString().split("\n")) {
            if (part.matches(".*[a-zA-Z].*")) {
                System.out.println(name + ": " + part.trim());
            }
        }
    }
}
