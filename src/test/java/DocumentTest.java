import java.io.IOException;
import java.nio.file.Files;
import java.nio.file.Path;
import java.util.ArrayList;
import java.util.List;

/**
 * Every sentence of 'Terms' and of the promises has a test under its own words, and every sentence
 * that a test names stands in the document.
 */
public final class DocumentTest {
    private static final Path DOCUMENT = Path.of("..", "shared", "DOC.md");
    /** What is no sentence on what the class does. */
    private static final String[] HEADS = {"## Terms", "======== 1 IN ALL:", "======== 2", "======== 3", "======== 4",
        "```text", "```"};
    private static final String[] HEAD_FORMS = {"## Promise \\d+: [A-Za-z ]+?(?= `| \\|)",
        "Ahead of the calls (`\\w+`,? ?)+ the interface says: ---- [a-z0-9, ]+\\."};

    private static List<String> said() {
        Check[] checks = {NumbersTest.all(), PadTest.all(), RunTest.all(), FlakesTest.all(), ChildrenTest.all(),
            BestTest.all(), BoxTest.all(), SoftnessTest.all(), ImageTest.all(), RefusalsTest.all()};
        List<String> sentences = new ArrayList<>();
        for (Check check : checks) {
            sentences.addAll(check.said());
        }
        return sentences;
    }

    private static String between(String text, String begin, String end) {
        int from = text.indexOf(begin);
        int to = text.indexOf(end);
        return from < 0 || to < from ? "" : text.substring(from, to);
    }

    /** What no test has named. */
    private static String left(String asked, List<String> sentences) {
        String rest = asked;
        for (String sentence : sentences) {
            rest = rest.replace(sentence, " | ");
        }
        for (String form : HEAD_FORMS) {
            rest = rest.replaceAll(form, " | ");
        }
        for (String head : HEADS) {
            rest = rest.replace(head, " | ");
        }
        return rest.replaceAll("[| ]+", " ").trim();
    }

    public static void main(String[] args) throws IOException {
        Check check = new Check("DocumentTest");
        List<String> sentences = said();
        check.holds("tests name sentences", !sentences.isEmpty());
        if (Files.isReadable(DOCUMENT)) {
            String document = Files.readString(DOCUMENT).replaceAll("\\s+", " ");
            for (String sentence : sentences) {
                check.holds("the document says '" + sentence + "'", document.contains(sentence));
            }
            String asked = between(document, "## Terms", "## Not promised");
            check.holds("there are 'Terms' and promises", !asked.isEmpty());
            String left = left(asked, sentences);
            check.holds("no test names '" + left + "'", left.isEmpty());
        } else {
            System.out.println("DocumentTest: " + DOCUMENT + " is not there, and is not looked into");
        }
        check.end();
    }
}
