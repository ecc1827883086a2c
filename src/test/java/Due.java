import java.util.ArrayList;
import java.util.List;
import java.util.TreeSet;

/** Counts and prints the answers that are not as due. */
final class Due {
    private final TreeSet<Integer> promises = new TreeSet<>();
    private final List<String> sentences = new ArrayList<>();
    private String heading = "";
    private int wrong = 0;
    private int asked = 0;

    /** What follows holds a sentence of the document; 0 is for its terms. */
    void says(int promise, String sentence) {
        promises.add(promise);
        sentences.add(sentence);
        heading = "promise " + promise + ", \"" + sentence + "\": ";
    }

    TreeSet<Integer> promises() {
        return promises;
    }

    List<String> sentences() {
        return sentences;
    }

    void is(String call, long got, long want) {
        asked++;
        if (got != want) {
            wrong++;
            System.out.println(heading + call + " answered " + got + ", due is " + want);
        }
    }

    void holds(String what, boolean so) {
        asked++;
        if (!so) {
            wrong++;
            System.out.println(heading + "not so: " + what);
        }
    }

    int wrong() {
        return wrong;
    }

    void end(String name) {
        System.out.println(name + ": " + (asked - wrong) + " of " + asked + " as due");
        if (wrong != 0) System.exit(1);
    }
}
