import java.io.IOException;
import java.nio.file.Files;
import java.nio.file.Path;
import java.util.LinkedHashMap;
import java.util.Map;

/**
 * The document's sentences, piece by piece: each piece has a test of its own, that prints where the piece stands and
 * its words, and no word of the sections that a file of tests is about may be left without one.
 */
final class Sentences {
    private static final Path DOCUMENT = Path.of("../shared/DOC.md");

    /** What has no test yet of each section, by its name. */
    private final Map<String, String> left = new LinkedHashMap<>();

    /** Sections are "Promise 2", "Term 4", "Behind the terms" or "What it is". */
    Sentences(String... sections) {
        String document = read();
        for (String section : sections) {
            if (!document.isEmpty()) {
                left.put(section, textOf(section, document));
            }
        }
    }

    private static String read() {
        try {
            return Files.readString(DOCUMENT);
        } catch (IOException e) {
            System.out.println(DOCUMENT + " is not there: the tests run, but their words are not looked up in it");
            return "";
        }
    }

    private static String textOf(String section, String document) {
        if (section.equals("What it is")) {
            return between(document, "two stories.\n\n", "\n");
        }
        if (section.equals("Behind the terms")) {
            return "\"Uses" + between(document, "\n\n\"Uses", "\n");
        }
        if (section.startsWith("Term ")) {
            // Behind the last term stand the lines that belong to none.
            String stop = section.equals("Term 4") ? "\n\n" : "\n====";
            String words = between(document, "\n==== " + section.substring(5) + ". ", stop);
            return words.replace("```text", "").replace("```", "").replaceAll("\\s+", " ");
        }
        return between(between(document, "\n## " + section + ": ", "\n## "), "`: ", "\n");
    }

    private static String between(String text, String from, String to) {
        int start = text.indexOf(from) + from.length();
        int stop = text.indexOf(to, start);
        // Where the document has no such place, no words are found in it, and each test says so.
        return text.contains(from) && stop >= 0 ? text.substring(start, stop) : "";
    }

    /** The promises that a section which is no promise belongs to. */
    private static String promisesOf(String section) {
        switch (section) {
            case "Term 1":
                return " (promises 9, 11 and 13 to 19)";
            case "Term 2":
                return " (promises 7 to 13, 20 and 21)";
            case "Term 3":
                return " (promises 18, 19 and 22)";
            case "Term 4":
                return " (promises 22 to 24)";
            case "Behind the terms":
                return " (promises 2 to 24)";
            case "What it is":
                return " (promises 1 to 24)";
            default:
                return "";
        }
    }

    /** The test shows that these words of the section hold. */
    void hold(String section, String words, Due.Call test) {
        int before = Due.wrong();
        String name = section + promisesOf(section) + ", '" + words + "'";
        Due.about(name + ": ");
        if (!left.isEmpty()) {
            String text = left.get(section);
            int at = text.indexOf(words);
            Due.is("whether the document has these words", at >= 0, true);
            // A stroke keeps the words before and behind apart, so that no piece is found across a gap.
            left.put(section, at < 0 ? text : text.substring(0, at) + "|" + text.substring(at + words.length()));
        }
        Due.raises("the test itself", "nothing thrown", test);
        Due.about("");
        System.out.println((Due.wrong() == before ? "holds: " : "BROKEN: ") + name);
    }

    void done(String name) {
        for (Map.Entry<String, String> section : left.entrySet()) {
            String words = section.getValue().replaceAll("[^A-Za-z0-9]+", " ").strip();
            Due.is(section.getKey() + ": the words that have no test", words, "");
        }
        Due.done(name);
    }
}
