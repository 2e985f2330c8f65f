import java.io.IOException;
import java.nio.file.Path;

/** Every sentence of the document that names a boundary case, in the document's words, with a test of its own. */
public final class SentencesTest {
    public static void main(String[] args) throws IOException {
        Sentences d = new Sentences(Path.of("../shared/DOC.md"));
        EdgesOfTrays.tell(d);
        EdgesOfTexts.tell(d);
        EdgesOfFlags.tell(d);
        EdgesOfDoing.tell(d);
        EdgesOfOutlook.tell(d);
        EdgesOfVoyages.tell(d);
        EdgesOfLives.tell(d);
        EdgesOfStatus.tell(d);
        d.allQuoted();
        Sea.end("SentencesTest");
    }
}
