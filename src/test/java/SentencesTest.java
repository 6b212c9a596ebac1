import java.util.ArrayList;
import java.util.List;

/** Every word of the document but its public face stands in a sentence that a test names. */
public final class SentencesTest {
    private static final int PROMISES = 14;
    /** What it is, The public face (see FaceTest), Terms, Not promised, and the title above them. */
    private static final int OTHER_SECTIONS = 5;

    public static void main(String[] args) {
        if (!Doc.isThere()) {
            System.out.println("there is no document to compare the tests with");
            return;
        }
        Check edges = new Check();
        runAll(edges);
        Check check = new Check();
        List<String> all = new ArrayList<>();
        for (int promise = 1; promise <= PROMISES; promise++) {
            List<String> named = edges.named("Promise " + promise);
            noWordIsLeft(check, "Promise " + promise, named);
            all.addAll(named);
        }
        noWordIsLeft(check, "Terms", all);
        noWordIsLeft(check, "What it is", edges.named("What it is"));
        noWordIsLeft(check, "Not promised", edges.named("Not promised"));
        check.that("the sections", Doc.sections(), PROMISES + OTHER_SECTIONS);
        edges.end();
        check.end();
    }

    private static void runAll(Check check) {
        Promise01EdgesTest.run(check);
        Promise02EdgesTest.run(check);
        Promise03EdgesTest.run(check);
        Promise04EdgesTest.run(check);
        Promise05EdgesTest.run(check);
        Promise06EdgesTest.run(check);
        Promise07EdgesTest.run(check);
        Promise08EdgesTest.run(check);
        Promise09EdgesTest.run(check);
        Promise10EdgesTest.run(check);
        Promise11EdgesTest.run(check);
        Promise12EdgesTest.run(check);
        Promise13EdgesTest.run(check);
        Promise14EdgesTest.run(check);
        WholeDocumentTest.run(check);
    }

    private static void noWordIsLeft(Check check, String section, List<String> named) {
        List<String> words = Doc.wordsOutside(section, named);
        check.that("the words that no test of " + section + " names, " + words, words.size(), 0);
        check.that("the section " + section + " is there", Doc.section(section).isEmpty() ? 0 : 1, 1);
    }
}
