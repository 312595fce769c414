import java.io.IOException;
import java.nio.file.Files;
import java.nio.file.Path;
import java.util.ArrayList;
import java.util.Comparator;
import java.util.List;

/** Each sentence of the document has a test of its own: those that are tested are struck out of it, and nothing is left. */
final class SentenceTest {
    private static final Path DOCUMENT = Path.of("../shared/DOC.md");

    /** What the document says between its sentences. */
    private static final List<String> HEADINGS = List.of("CONVENTIONS.", "SETTINGS (in parentheses: range, initial value):",
            "MARKERS.", "A TICK consists of these steps:", "TEXTS.", "The constants:", "The constructor and the methods follow, "
            + "a promise each: the signature, then what it does.", "---- the tank", "---- what there is", "---- markers",
            "---- texts", "---- saving");

    public static void main(String[] args) throws IOException {
        ConventionSentences.test();
        TankSentences.test();
        TickSentences.test();
        TextSentences.test();
        CallSentences.test();
        AskSentences.test();
        ForecastSentences.test();
        PadSentences.test();
        Sentences.endSentence();
        if (Files.isReadable(DOCUMENT)) {
            compareWithDocument(Files.readAllLines(DOCUMENT));
        } else {
            System.out.println("SentenceTest: no document at " + DOCUMENT + " to compare with");
        }
        Sentences.CHECK.finish();
    }

    private static void compareWithDocument(List<String> lines) {
        int promise = -1;
        String told = "";
        for (String line : lines) {
            if (line.startsWith("## ")) {
                compareSection(promise, told);
                promise = promiseOf(line);
                told = "";
            } else if (!isSignature(line)) {
                told += line.replaceFirst("^\\d+\\. ", "") + "\n";
            }
        }
    }

    /** The promise that a heading begins, 0 for the description, -1 where nothing is promised. */
    private static int promiseOf(String heading) {
        if (heading.equals("## Description")) {
            return 0;
        }
        return heading.startsWith("## Promise ") ? Integer.parseInt(heading.substring(11, heading.indexOf(':'))) : -1;
    }

    private static boolean isSignature(String line) {
        return line.startsWith("`") && line.endsWith("`");
    }

    /** Strikes the sentences that have a test out of a section of the document: no word may be left. */
    private static void compareSection(int promise, String told) {
        if (promise < 0) {
            return;
        }
        List<String> sentences = new ArrayList<>(Sentences.named(promise));
        for (String sentence : sentences) {
            Sentences.CHECK.same("the document tells, in " + promise + ", " + sentence, true, told.contains(sentence));
        }
        // The longer ones first: a short one may stand inside a long one.
        sentences.sort(Comparator.comparing(String::length).reversed());
        String left = told;
        for (String sentence : sentences) {
            left = left.replace(sentence, "");
        }
        for (String heading : HEADINGS) {
            left = left.replace(heading, "");
        }
        for (String line : left.split("\n")) {
            Sentences.CHECK.same("promise " + promise + " tells without a test: " + line, false,
                    line.matches(".*[A-Za-z0-9].*"));
        }
    }
}
