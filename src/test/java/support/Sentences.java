import java.util.ArrayList;
import java.util.List;

/** The document's sentences that name a boundary case, each with a test of its own. */
final class Sentences {
    /** Looks at what a sentence says. */
    interface Test {
        void run(Checks checks);
    }

    /** A sentence: the promise that it belongs to (0: 'What it is'), and its words. */
    static final class Sentence {
        final String name;
        final int promise;
        final Test test;

        Sentence(int promise, String words, Test test) {
            this.name = promise + " " + words;
            this.promise = promise;
            this.test = test;
        }
    }

    private final List<Sentence> all = new ArrayList<>();

    private Sentences() {
    }

    static List<Sentence> all() {
        Sentences sentences = new Sentences();
        BookSentences.addTo(sentences);
        BathSentences.addTo(sentences);
        PieceSentences.addTo(sentences);
        ClothSentences.addTo(sentences);
        LastCallSentences.addTo(sentences);
        return sentences.all;
    }

    void add(int promise, String words, Test test) {
        all.add(new Sentence(promise, words, test));
    }

    /** A sentence that tells an argument's range. */
    void range(int promise, String words, Checks.Maker maker, int least, int most, Due due, Checks.OpenCall call) {
        add(promise, words, checks -> checks.range(maker, least, most, due, words, call));
    }
}
