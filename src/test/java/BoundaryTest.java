import java.util.TreeSet;

/** Each sentence of ../shared/DOC.md that names a boundary case, by a test of its own. */
public final class BoundaryTest {
    public static void main(String[] args) {
        Checks checks = new Checks();
        TreeSet<Integer> promises = new TreeSet<>();
        TreeSet<String> names = new TreeSet<>();
        for (Sentences.Sentence sentence : Sentences.all()) {
            int before = checks.calls();
            checks.begin("promise " + sentence.name);
            sentence.test.run(checks);
            promises.add(sentence.promise);
            checks.same("it looks at something", String.valueOf(checks.calls() > before), "true");
            checks.same("no other sentence has its name", String.valueOf(names.add(sentence.name)), "true");
        }
        checks.begin("all promises have sentences");
        for (int promise = 0; promise <= 21; promise++) {
            checks.same("promise " + promise, String.valueOf(promises.contains(promise)), "true");
        }
        System.out.println(names.size() + " sentences");
        checks.end("BoundaryTest");
    }
}
