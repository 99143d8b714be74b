import java.io.IOException;

/** A test for each sentence of the document, with the cases at the edge that it names. */
public final class SentencesTest {
    public static void main(String[] args) throws IOException {
        Sentences sentences = new Sentences();
        EdgesOfTypes.all(sentences);
        EdgesOfClasses.all(sentences);
        EdgesOfDictionaries.all(sentences);
        EdgesOfValues.all(sentences);
        EdgesOfRefusals.all(sentences);
        EdgesOfPromises.all(sentences);
        sentences.allAreQuoted();
        Checks.finish();
    }
}
