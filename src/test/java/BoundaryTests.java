import java.io.IOException;
import java.nio.file.Path;

/** The sentences of the document that name a boundary case, one by one. */
public final class BoundaryTests {
    public static void main(String[] args) throws IOException {
        Sentences sentences = new Sentences(Path.of("../shared/DOC.md"));
        TableBoundaries.test(sentences);
        WayBoundaries.test(sentences);
        TextBoundaries.test(sentences);
        ActionBoundaries.test(sentences);
        QuestionBoundaries.test(sentences);
        ShapeBoundaries.test(sentences);
        CopyBoundaries.test(sentences);
        if (args.length > 0 && args[0].equals("untested")) {
            sentences.tellUntested();
        }
        Checks.endWith(sentences.tests() + " sentences hold");
    }
}
