import java.nio.file.Files;
import java.nio.file.Path;

/** Each sentence of the document that names a boundary case, in its order, with a test of its own. */
public final class EdgesTest {
    public static void main(String[] args) throws Exception {
        TermEdges.all();
        PeopleEdges.all();
        AfternoonEdges.all();
        SayingEdges.all();
        DebtEdges.all();
        PuzzleEdges.all();
        KeptEdges.all();
        Path document = Path.of(args.length > 0 ? args[0] : ".", "../shared/DOC.md");
        // The answers are due with or without it; the quotes alone need it.
        if (Files.exists(document)) {
            Sentence.compareWithDocument(document);
        } else {
            System.out.println("no document at " + document + ": its sentences are not compared");
        }
        Check.close();
    }
}
