import java.io.IOException;
import java.io.UncheckedIOException;
import java.nio.file.Files;
import java.nio.file.Path;
import java.util.ArrayList;
import java.util.List;

/**
 * The sentences of the document. A test of a boundary case quotes the one that it holds, so that in
 * the end those are told that no test has quoted.
 */
final class Document {

    /** What stands before promise 1. */
    static final int DESCRIPTION = 0;

    private static final Path PATH = Path.of("../shared/DOC.md");

    private record Sentence(int promise, String words) {
    }

    private static final List<Sentence> SENTENCES = read();
    private static final List<Sentence> QUOTED = new ArrayList<>();

    private Document() {
    }

    private static List<Sentence> read() {
        List<Sentence> sentences = new ArrayList<>();
        int promise = DESCRIPTION;
        boolean within = false;
        try {
            for (String line : Files.readAllLines(PATH)) {
                if (line.startsWith("## ")) {
                    within = line.equals("## Description") || line.startsWith("## Promise ");
                    promise = line.startsWith("## Promise ") ? Integer.parseInt(line.replaceAll("\\D+", " ").trim().split(" ")[0]) : promise;
                } else if (within && isTold(line)) {
                    for (String words : line.trim().split("(?<=\\.) (?=[A-Z@])")) {
                        sentences.add(new Sentence(promise, words));
                    }
                }
            }
        } catch (IOException e) {
            throw new UncheckedIOException(e);
        }
        return sentences;
    }

    /** Signatures, rules between sections and arguments of which nothing but a name is told are left out. */
    private static boolean isTold(String line) {
        return !line.isBlank() && !line.startsWith("`") && !line.startsWith("----")
                && !line.matches("- `\\w+`: an? \\w+") && !line.startsWith("The constant")
                && !line.startsWith("- `NONE") && !line.startsWith("The constructor");
    }

    /** The test that calls this holds the sentence of which these are words. */
    static void says(int promise, String words) {
        boolean found = false;
        for (Sentence sentence : SENTENCES) {
            if (sentence.promise == promise && sentence.words.contains(words)) {
                QUOTED.add(sentence);
                found = true;
            }
        }
        Check.same("promise " + promise + " says: " + words, found, true);
    }

    /** Tells each sentence that no test has quoted. */
    static void isQuotedWhole() {
        for (Sentence sentence : SENTENCES) {
            boolean label = sentence.words.equals(sentence.words.toUpperCase());
            Check.same("a test quotes promise " + sentence.promise + ": " + sentence.words,
                    label || QUOTED.contains(sentence), true);
        }
    }
}
