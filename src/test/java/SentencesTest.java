import java.nio.file.Path;

/** Each sentence of the document that names a boundary case, with a test of its own. */
public final class SentencesTest {
    public static void main(String[] args) throws Exception {
        Check check = new Check("SentencesTest");
        Sentences s = new Sentences(check);
        DescriptionSentences.all(s);
        TextSentences.all(s);
        HistorySentences.all(s);
        EdgeSentences.all(s);
        ObservationSentences.all(s);
        OutcomeSentences.all(s);
        SourceSentences.all(s);
        s.compareWith(Path.of(System.getProperty("project.root", ".")).resolve("../shared/DOC.md"));
        check.end();
    }
}
