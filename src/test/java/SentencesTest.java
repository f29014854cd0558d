import java.io.IOException;
import java.nio.file.Files;
import java.nio.file.Path;

/** Each sentence of the document that names an edge has a test of its own, and no sentence is left without one. */
public final class SentencesTest {
    public static void main(String[] args) throws IOException {
        PeopleSentences.all();
        QuarterSentences.all();
        PlanSentences.all();
        SeenSentences.all();
        SheetSentences.all();
        RefusalSentences.all();
        compareQuotes(Path.of("../shared/DOC.md"));
        System.out.println(Sentences.summary());
        if (Sentences.wrong() != 0) {
            System.exit(1);
        }
    }

    private static void compareQuotes(Path file) throws IOException {
        if (!Files.exists(file)) {
            System.out.println("there is no " + file + ": the quotes are not compared");
            return;
        }
        for (String complaint : new Document(file).complaints(Sentences.quotes())) {
            Sentences.complainOfQuotes(complaint);
        }
    }
}
