import java.io.IOException;
import java.nio.file.Files;
import java.nio.file.Path;
import java.util.ArrayList;
import java.util.List;

/**
 * The document's sentences, each with its own tests: a test names words of the document that it tests, and at the end
 * no sentence of the asked promises and paragraphs may be without one. So a test can't speak of words that are not
 * there, and a sentence can't be forgotten.
 */
final class Sentences {
    /** Promise 0 stands for the terms. */
    static final int TERMS = 0;
    private static final int PROMISES = 48;

    private final String[] texts = new String[PROMISES + 1];
    private final List<List<String>> named = new ArrayList<>();

    Sentences(String[] args) {
        String root = args.length > 0 ? args[0] : ".";
        String all = read(Path.of(root, "../shared/DOC.md"));
        String[] sections = all.split("\n## ");
        StringBuilder terms = new StringBuilder();
        for (String section : sections) {
            String body = section.substring(section.indexOf('\n') + 1);
            if (section.startsWith("Promise ")) {
                int number = Integer.parseInt(section.substring(8, section.indexOf(':')));
                texts[number] = body.substring(body.indexOf("`:") + 2).trim();
            } else if (section.startsWith("Terms")) {
                terms.append(body.replace("```text\n", "").replace("```\n", ""));
            }
        }
        texts[TERMS] = terms.toString();
        for (int i = 0; i <= PROMISES; i++) {
            named.add(new ArrayList<>());
        }
    }

    private static String read(Path path) {
        try {
            return Files.readString(path);
        } catch (IOException e) {
            throw new IllegalStateException("the document is not there: " + path);
        }
    }

    /** Runs the test of some words of a promise. */
    void test(int promise, String words, Runnable test) {
        Support.due("promise " + promise + " says: " + words, texts[promise] != null && texts[promise].contains(words), true);
        named.get(promise).add(words);
        int before = Support.asked;
        Support.about = promise + " \"" + words + "\": ";
        try {
            test.run();
        } catch (RuntimeException e) {
            Support.due("the test itself", e, "no exception");
        }
        Support.due("the test asks something", Support.asked > before, true);
        Support.about = "";
    }

    /** All sentences of these promises, and of the terms' paragraphs that begin so, have been named. */
    void finish(String name, int first, int last, String... paragraphs) {
        named(first, last);
        for (String beginning : paragraphs) {
            allNamed(TERMS, paragraph(beginning));
        }
        Support.finish(name);
    }

    /** All sentences of these promises have been named. */
    void named(int first, int last) {
        for (int promise = first; promise <= last; promise++) {
            allNamed(promise, texts[promise]);
        }
    }

    private String paragraph(String beginning) {
        for (String line : texts[TERMS].split("\n")) {
            if (line.trim().startsWith(beginning)) {
                return line.trim();
            }
        }
        Support.due("a paragraph " + beginning, "none", "one");
        return "";
    }

    private void allNamed(int promise, String text) {
        // a full stop stands behind a word; the two points of a row stand behind a blank
        for (String sentence : text.split("(?<=[\\w)\\]])\\.\\s*(?!\\S)|(?<=[\\w)])\\.\\)?\\s+")) {
            // a word alone is a heading
            boolean found = sentence.trim().indexOf(' ') < 0 && promise == TERMS;
            for (String words : named.get(promise)) {
                found |= sentence.contains(words);
            }
            Support.due("promise " + promise + ", a test of: " + sentence, found, true);
        }
    }
}
