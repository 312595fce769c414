import java.util.Objects;

/** Counts and prints the answers that are not as due. */
final class Check {
    private static final int MOST_PRINTED = 40;
    private final String title;
    private int wrong = 0;
    private int asked = 0;

    Check(String title) {
        this.title = title;
    }

    void due(String call, long want, long got) {
        same(call, want, got);
    }

    void same(String call, Object want, Object got) {
        asked++;
        if (!Objects.equals(want, got)) {
            wrong++;
            if (wrong <= MOST_PRINTED) {
                System.out.println(title + ": " + call + " answered " + got + ", due is " + want);
            }
        }
    }

    boolean anyWrong() {
        return wrong > 0;
    }

    /** Ends the program, with exit code 1 if an answer was not as due. */
    void finish() {
        System.out.println(title + ": " + asked + " answers, " + wrong + " not as due");
        System.exit(wrong == 0 ? 0 : 1);
    }
}
