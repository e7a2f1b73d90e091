import java.util.ArrayList;
import java.util.List;

/** Counts answers that are not as due, each under the sentence of the document that it belongs to. */
final class Check {
    private final String name;
    private final List<String> sentences = new ArrayList<>();
    private String sentence = "";
    private int asked = 0;
    private int wrong = 0;

    Check(String name) {
        this.name = name;
    }

    /** A sentence of the document, in its own words: the answers behind this belong to it. DocumentTest looks it up. */
    void says(String words) {
        sentence = words;
        sentences.add(words);
    }

    List<String> said() {
        return sentences;
    }

    void due(String call, long got, long want) {
        asked++;
        if (got != want) {
            wrong++;
            System.out.println(name + ": " + call + " answered " + got + ", due is " + want
                + (sentence.isEmpty() ? "" : "\n    by '" + sentence + "'"));
        }
    }

    void holds(String what, boolean is) {
        due(what, is ? 1 : 0, 1);
    }

    /** Answers of one kind, for an argument that counts up from the first. */
    interface Asked {
        long of(int n);
    }

    void row(String call, Asked asked, int first, long... wants) {
        for (int i = 0; i < wants.length; i++) {
            due(call + " at " + (first + i), asked.of(first + i), wants[i]);
        }
    }

    void end() {
        System.out.println(name + ": " + asked + " answers, " + wrong + " not as due");
        if (wrong != 0 || asked == 0) {
            System.exit(1);
        }
    }
}
