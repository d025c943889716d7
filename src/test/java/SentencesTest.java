import java.util.List;
import java.util.Map;
import java.util.Set;

/** Each sentence of the document has a test of its own, and each such test names a sentence of the document. */
public final class SentencesTest {
    private SentencesTest() {
    }

    public static void main(String[] args) {
        MachineSentences.run();
        StepSentences.run();
        WordSentences.run();
        AnalysisSentences.run();
        CoveringSentences.run();
        TextSentences.run();
        RefusedSentences.run();
        if (Document.isThere()) {
            compareWithDocument(Document.read());
        }
        Check.finish("SentencesTest");
    }

    private static void compareWithDocument(Document document) {
        for (Map.Entry<String, Set<String>> held : Sentences.held().entrySet()) {
            for (String sentence : held.getValue()) {
                Check.due(held.getKey() + " has the sentence \"" + sentence + "\"", document.has(held.getKey(), sentence), true);
            }
        }
        for (Map.Entry<String, List<String>> place : document.sentences().entrySet()) {
            for (String sentence : place.getValue()) {
                boolean held = Sentences.isHeld(place.getKey(), sentence);
                Check.due(place.getKey() + ": \"" + sentence + "\" has a test", held || namesNoEdge(sentence), true);
            }
        }
        Check.due("places in the document", document.sentences().size(), 49);
    }

    /** The line of a parameter that is only named. */
    private static boolean namesNoEdge(String sentence) {
        return sentence.matches("\\w+: the (transition|letter|state|old state|new state|character)");
    }
}
