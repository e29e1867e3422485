/** Each sentence of the document that names a bound, with a test of its own. Worked out by hand. */
public final class SentencesTest extends Bench {
    public static void main(String[] args) throws Exception {
        Sentences doc = new Sentences();
        TermsBounds.all(doc);
        PromiseBounds.all(doc);
        doc.allBoundsAreQuoted();
        end("SentencesTest");
    }
}
