import java.io.IOException;

/**
 * The document sentence by sentence: each test names the promise and the sentence to which its answers are due,
 * and no sentence may be left without one.
 */
public final class SentencesTest {
    private static final Check CHECK = new Check();

    public static void main(String[] args) throws IOException {
        Document document = Document.isThere() ? new Document() : null;
        Sentences[] groups = {new SentencesOfTexts(CHECK, document), new SentencesOfTimes(CHECK, document),
            new SentencesOfHistory(CHECK, document), new SentencesOfWriting(CHECK, document),
            new SentencesOfAsking(CHECK, document), new SentencesOfParts(CHECK, document)};
        for (Sentences group : groups) {
            group.test();
        }
        if (document == null) {
            System.out.println("the document is not there: its words are not compared");
        } else {
            nothingIsLeft(document);
        }
        CHECK.end();
    }

    private static void nothingIsLeft(Document document) {
        // These promise no answer: what the whole is, where the signatures stand (FaceTest), and what is free.
        document.names("What it is", "A workbench for rhythms: parts are written as texts with notes, rests, ties, accents, tuplets, bar "
            + "lines and repeats with endings; they are unfolded into events at exact times, checked against a meter, swung, laid over "
            + "one another, played in loops, and measured for their syncopation and for the grid on which they lie.");
        document.names("Description", "The constructor and the methods follow, a promise each: the signature, then what it does.");
        document.unnamed().forEach((section, words) -> {
            if (!section.equals("The public face") && !section.equals("Not promised")) {
                CHECK.says(section, words);
                CHECK.dueText("the tests that name it", "none", "at least one");
            }
        });
    }
}
