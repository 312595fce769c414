import java.util.ArrayList;
import java.util.List;

/**
 * Tests that are told by sentences of the document: "of" names the sentence whose test begins, in the words of the
 * document, and "due" belongs to the sentence that was named last. SentenceTest compares the sentences with the document.
 */
abstract class Sentences extends Tanks {
    static final Check CHECK = new Check("SentenceTest");
    private static final List<List<String>> NAMED = new ArrayList<>();
    private static int promise;
    private static String sentence = "";
    private static boolean asked = true;

    /** Begins the tests of a promise; 0 stands for the section "Description". */
    static void promise(int number) {
        endSentence();
        promise = number;
    }

    static void of(String words) {
        endSentence();
        sentence = words;
        asked = false;
        named(promise).add(words);
    }

    static void endSentence() {
        CHECK.same("promise " + promise + ", \"" + sentence + "\" is tested", true, asked);
    }

    static List<String> named(int promise) {
        while (NAMED.size() <= promise) {
            NAMED.add(new ArrayList<>());
        }
        return NAMED.get(promise);
    }

    static void due(String call, long want, long got) {
        asked = true;
        CHECK.due("promise " + promise + ", \"" + sentence + "\": " + call, want, got);
    }

    /** Two lists of everything() are the same; only the first number that is another is printed. */
    static void dueSame(String what, List<Long> want, List<Long> got) {
        due(what + ": how many numbers", want.size(), got.size());
        for (int index = 0; index < Math.min(want.size(), got.size()); index++) {
            if (!want.get(index).equals(got.get(index))) {
                due(what + ": number " + index, want.get(index), got.get(index));
                return;
            }
        }
    }

    /** Says a text to an empty pad. */
    static void say(DyeTank x, String text) {
        x.wipe();
        for (int index = 0; index < text.length(); index++) {
            x.say(text.charAt(index));
        }
    }

    static int faultOf(String text) {
        DyeTank x = new DyeTank();
        say(x, text);
        return x.fault();
    }

    static void dueFault(String text, int fault) {
        due("fault() of " + text, fault, faultOf(text));
    }

    static void dueCorrect(String... texts) {
        for (String text : texts) {
            dueFault(text, NONE);
        }
    }
}
