import java.util.ArrayList;
import java.util.List;

/** Tests that are each of one sentence of the document: its heading, its words, what is looked at. */
final class Sentences {
    record Sentence(String heading, String words, Runnable test) { }

    private final List<Sentence> all = new ArrayList<>();

    void of(String heading, String words, Runnable test) {
        all.add(new Sentence(heading, words, test));
    }

    List<Sentence> all() {
        return all;
    }

    void run(Checks checks) {
        for (Sentence sentence : all) {
            checks.about(sentence.heading() + ", \"" + sentence.words() + "\"");
            int before = checks.made();
            runOne(checks, sentence);
            checks.isTrue("that something was looked at", checks.made() > before);
        }
        System.out.println(all.size() + " sentences");
        checks.finish();
    }

    /** A sentence whose test is cut short by an exception must not keep the others from theirs. */
    private static void runOne(Checks checks, Sentence sentence) {
        try {
            sentence.test().run();
        } catch (RuntimeException e) {
            checks.fail("a call threw " + e);
        }
    }
}
