/** Each sentence of the document, up to what is not promised, has a test of its own, and all of them are quoted. */
public final class SentencesTest {
    public static void main(String[] args) throws Exception {
        Due due = new Due();
        Document document = Document.read();
        Sentences[] all = {
            new FaceSentences(document, due), new RegistersSentences(document, due),
            new InstructionsSentences(document, due),
            new ProgramsSentences(document, due), new RewritingSentences(document, due),
            new CheckSentences(document, due), new MachineSentences(document, due),
            new TrialSentences(document, due), new WritingSentences(document, due),
            new RunningSentences(document, due)};
        for (Sentences some : all) {
            some.holdAll();
        }
        for (String section : new String[] {"What it is", "The public face", "Terms"}) {
            everyWordIsQuoted(due, document, section);
        }
        for (int number = 1; number <= 18; number++) {
            everyWordIsQuoted(due, document, "Promise " + number);
        }
        due.end();
    }

    private static void everyWordIsQuoted(Due due, Document document, String section) {
        for (String words : document.unquoted(section)) {
            due.is(section + ": no test holds \"" + words + "\"", true, false);
        }
        due.is(section + ": is all quoted", document.unquoted(section).isEmpty(), true);
    }
}
