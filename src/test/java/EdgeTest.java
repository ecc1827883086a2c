import java.io.IOException;
import java.nio.file.Files;
import java.nio.file.Path;

/** The document's edges, sentence by sentence; each promise has one at least. */
public final class EdgeTest {
    private static final Path DOCUMENT = Path.of("../shared/DOC.md");
    private static final int PROMISES = 40;

    public static void main(String[] args) throws IOException {
        Due due = new Due();
        Edges[] all = {new PeopleEdges(due), new RoleEdges(due), new PlanEdges(due), new ToldEdges(due),
            new OrderEdges(due), new RefusedEdges(due)};
        for (Edges edges : all) edges.test();
        due.says(0, "");
        for (int n = 1; n <= PROMISES; n++) due.holds("an edge of promise " + n, due.promises().contains(n));
        if (Files.exists(DOCUMENT)) quotes(due, Files.readString(DOCUMENT));
        else System.out.println("EdgeTest: no " + DOCUMENT + " to hold the sentences against");
        due.end("EdgeTest");
    }

    private static void quotes(Due due, String document) {
        for (String sentence : due.sentences()) {
            due.holds("the document says: " + sentence, document.contains(sentence));
        }
    }
}
