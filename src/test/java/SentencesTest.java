/** For each sentence of the document a test of its own, and no words of a promise without a test. */
public final class SentencesTest {
    private SentencesTest() {
    }

    public static void main(String[] args) throws Exception {
        Document document = new Document();
        Sentences[] all = {
            new TermsSentences(document),
            new LodgesAndSignsSentences(document),
            new PlacesSentences(document),
            new BooksSentences(document),
            new HowSignsDifferSentences(document),
            new ReadingSentences(document),
            new WhatWouldBeSentences(document),
        };
        int begun = 0;
        int wrong = 0;
        for (Sentences part : all) {
            part.testAll();
            begun += part.begun();
            wrong += part.wrong();
        }
        if (document.promises() != 32) {
            wrong++;
            System.out.println("the document has " + document.promises() + " promises, not 32");
        }
        for (String words : document.untested()) {
            wrong++;
            System.out.println("no test quotes " + words);
        }
        System.out.println(begun + " tests of sentences, "
                + (wrong == 0 ? "all as due" : wrong + " answers not as due"));
        if (wrong != 0) {
            System.exit(1);
        }
    }
}
