import java.io.IOException;
import java.nio.file.Files;
import java.nio.file.Path;
import java.util.ArrayList;
import java.util.HashMap;
import java.util.HashSet;
import java.util.List;
import java.util.Map;
import java.util.Set;

/** Ties a test to the sentence of the document that it tests. */
final class Sentence {
    /** The sections ahead of "Promise 1", by numbers that no promise has. */
    static final int WHAT_IT_IS = -1;
    static final int TERMS = 0;

    private static final Path DOCUMENT = Path.of("..", "shared", "DOC.md");
    private static final Map<Integer, List<String>> SENTENCES = readDocument();
    private static final Set<String> NAMED = new HashSet<>();

    private Sentence() {
    }

    /** Runs the test of one sentence; the words must stand in the document, in that section. */
    static void test(int section, String words, Runnable test) {
        Check.about(nameOf(section) + ", \"" + words + "\": ");
        NAMED.add(section + words);
        if (!SENTENCES.isEmpty() && !of(section).contains(words)) {
            Check.report("the document has no such sentence");
        }
        try {
            test.run();
        } catch (RuntimeException e) {
            Check.report("the test itself was thrown out by " + e);
        }
        Check.about("");
    }

    /** Reports each parameter and each exception of these promises that no test has named. */
    static void allNamed(int firstPromise, int lastPromise) {
        for (int promise = firstPromise; promise <= lastPromise; promise++) {
            for (String words : of(promise)) {
                if (words.startsWith("- `") || words.startsWith("Throws ")) {
                    mustBeNamed(promise, words);
                }
            }
        }
    }

    /** Reports each sentence of the terms that no test has named. */
    static void allTermsNamed(String... withoutEdge) {
        for (String words : of(TERMS)) {
            boolean heading = words.split(" ").length <= 3;
            if (!heading && !words.startsWith("Ahead of the calls ") && !List.of(withoutEdge).contains(words)) {
                mustBeNamed(TERMS, words);
            }
        }
    }

    private static void mustBeNamed(int section, String words) {
        if (!NAMED.contains(section + words)) {
            Check.report(nameOf(section) + ": no test names \"" + words + "\"");
        }
    }

    private static List<String> of(int section) {
        return SENTENCES.getOrDefault(section, List.of());
    }

    private static String nameOf(int section) {
        return section == WHAT_IT_IS ? "What it is" : section == TERMS ? "Terms" : "Promise " + section;
    }

    /** Empty where there is no document: the tests then run without comparing their sentences. */
    private static Map<Integer, List<String>> readDocument() {
        Map<Integer, List<String>> sentences = new HashMap<>();
        for (String section : read().split("\n## ")) {
            String[] parts = section.split("\n", 2);
            Integer number = numberOf(parts[0]);
            if (number != null && parts.length == 2) {
                sentences.put(number, sentencesOf(parts[1]));
            }
        }
        return sentences;
    }

    private static String read() {
        if (!Files.exists(DOCUMENT)) {
            System.out.println("no " + DOCUMENT + " here: the sentences that the tests name are not compared with it");
            return "";
        }
        try {
            return Files.readString(DOCUMENT);
        } catch (IOException e) {
            throw new IllegalStateException(DOCUMENT + " can't be read", e);
        }
    }

    private static Integer numberOf(String heading) {
        if (heading.startsWith("Promise ")) {
            return Integer.valueOf(heading.substring(8, heading.indexOf(':')));
        }
        return heading.equals("What it is") ? Integer.valueOf(WHAT_IT_IS) : heading.equals("Terms") ? TERMS : null;
    }

    /** Each line of a list is one; a paragraph is parted behind its full stops, without the call that it begins with. */
    private static List<String> sentencesOf(String section) {
        List<String> all = new ArrayList<>();
        for (String paragraph : section.strip().split("\n\n")) {
            if (paragraph.startsWith("- `")) {
                all.addAll(List.of(paragraph.split("\n")));
            } else {
                String words = paragraph.replace('\n', ' ').replaceFirst("^`[^`]*`: ", "");
                all.addAll(List.of(words.split("(?<=\\.) (?=[A-Z])")));
            }
        }
        return all;
    }
}
