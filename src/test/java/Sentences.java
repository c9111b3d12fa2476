import java.util.HashSet;
import java.util.Set;

/**
 * Runs tests that are named by the document's own words: a heading, and a sentence under it or a part of
 * one. It is a fault if the document has no such words, or if a sentence is left without a test.
 */
final class Sentences {
    private final Doc doc;
    private final Set<String> tested = new HashSet<>();
    private String heading = "";
    private int tests = 0;

    Sentences(Doc doc) {
        this.doc = doc;
    }

    void under(String name) {
        heading = name;
    }

    void test(String words, Runnable test) {
        tests++;
        Checks.about(heading + " | " + words);
        findSentence(words);
        int before = Checks.made();
        try {
            test.run();
        } catch (RuntimeException e) {
            Checks.fault("threw " + e);
        }
        if (Checks.made() == before) {
            Checks.fault("checks nothing");
        }
    }

    /** The headings are those of the terms and of the promises; what else the document says needs no test. */
    void end() {
        Checks.about("");
        System.out.println(tests + " tests, named by sentences");
        for (String name : doc.headings()) {
            boolean needed = name.startsWith("Promise ") || Set.of("Terms", "Lines", "Brackets", "Years", "Credits", "Exceptions").contains(name);
            for (String sentence : doc.under(name)) {
                if (needed && !tested.contains(name + sentence)) {
                    Checks.fault("no test for: " + name + " | " + sentence);
                }
            }
        }
    }

    private void findSentence(String words) {
        boolean found = false;
        for (String sentence : doc.under(heading)) {
            if (sentence.contains(words)) {
                tested.add(heading + sentence);
                found = true;
            }
        }
        if (!found) {
            Checks.fault("the document does not say this");
        }
    }
}
