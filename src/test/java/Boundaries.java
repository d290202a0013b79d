import java.io.IOException;

/** Tests of sentences: each one quotes the words of the document that it is about. */
abstract class Boundaries extends Checks {
    private static Document document;

    static void open() throws IOException {
        document = new Document();
    }

    /** The checks that follow are about a sentence of the section "Terms". */
    static void about(String words) {
        topic = "\"" + words + "\"";
        if (!document.quoteTerms(words)) {
            fail("is not in the document");
        }
    }

    /** The checks that follow are about a sentence of a promise. */
    static void about(int promise, String words) {
        topic = "promise " + promise + ", \"" + words + "\"";
        if (!document.quote("Promise " + promise, words)) {
            fail("is not in the document");
        }
    }

    static void nothingIsLeft() {
        topic = "sentences of the document";
        for (String sentence : document.untested()) {
            fail("no test for " + sentence);
        }
    }
}
