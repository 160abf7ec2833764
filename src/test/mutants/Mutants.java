import java.io.IOException;
import java.lang.reflect.InvocationTargetException;
import java.net.URL;
import java.net.URLClassLoader;
import java.nio.file.Files;
import java.nio.file.Path;
import java.util.ArrayList;
import java.util.List;
import java.util.TreeSet;
import javax.tools.JavaCompiler;
import javax.tools.ToolProvider;

/**
 * Breaks the program, sentence by sentence, and looks whether the sentence's own test sees it. It is a test of the
 * tests: it goes by the program's very words, so mutants.txt must follow when those change.
 * Its arguments: the program, the mutants, the folder of the compiled tests, a folder to work in.
 */
public final class Mutants {
    private final String program;
    private final URL tests;
    private final Path work;
    private final JavaCompiler compiler = ToolProvider.getSystemJavaCompiler();
    private final TreeSet<String> broken = new TreeSet<>();
    private int made = 0;
    private int wrong = 0;

    private Mutants(String program, URL tests, Path work) {
        this.program = program;
        this.tests = tests;
        this.work = work;
    }

    public static void main(String[] args) throws IOException, ReflectiveOperationException {
        Mutants mutants = new Mutants(Files.readString(Path.of(args[0])), Path.of(args[2]).toUri().toURL(),
                Path.of(args[3]));
        mutants.lookAtProgram();
        String sentence = "";
        for (String line : Files.readAllLines(Path.of(args[1]))) {
            if (line.startsWith("# ")) {
                sentence = line.substring(2);
            } else if (!line.isBlank()) {
                mutants.breakBy(sentence, line);
            }
        }
        mutants.end();
    }

    /** Called in a class loader of its own, where DyeRing is the mutant: how many answers the sentence's test minds. */
    public static int mindedBy(String name) {
        for (Sentences.Sentence sentence : Sentences.all()) {
            if (sentence.name.equals(name)) {
                Checks checks = new Checks(true);
                try {
                    sentence.test.run(checks);
                } catch (RuntimeException e) {
                    return checks.wrong() + 1;
                }
                return checks.wrong();
            }
        }
        return -1;
    }

    // ---- from a line to the mutants

    private void breakBy(String sentence, String line) throws IOException, ReflectiveOperationException {
        String[] parts = line.split(" ;; ");
        int start = program.indexOf(parts[0]);
        if (start < 0 || program.indexOf(parts[0], start + 1) >= 0) {
            complain(sentence, line, "is not told just once where");
            return;
        }
        int gap = program.indexOf("\n\n", start);
        int end = gap < 0 ? program.length() : gap;
        String place = program.substring(start, end);
        for (String[] change : changes(parts)) {
            String changed = changed(place, change);
            if (changed.equals(place)) {
                complain(sentence, line, "changes nothing");
            } else {
                look(sentence, line, program.substring(0, start) + changed + program.substring(end));
            }
        }
    }

    /** Each change is a text and what comes in its place; "swap" ahead of two texts lets them change places. */
    private static List<String[]> changes(String[] parts) {
        List<String[]> all = new ArrayList<>();
        String text = parts[parts.length > 2 ? 2 : 1];
        switch (parts[1]) {
            case "swap":
                all.add(new String[] {"swap", parts[2], parts[3]});
                break;
            case "range": {
                int least = Integer.parseInt(parts[4]);
                int most = Integer.parseInt(parts[5]);
                for (int[] wrong : new int[][] {{-1, 0}, {1, 0}, {0, -1}, {0, 1}}) {
                    all.add(new String[] {text, "requireRange(" + parts[3] + ", " + (least + wrong[0]) + ", "
                            + (most + wrong[1]) + ");"});
                }
                break;
            }
            case "index": {
                String rest = " requireIndex(" + text + ", " + parts[3] + ");";
                String whole = rest.substring(1);
                all.add(new String[] {whole, text + " = Math.max(" + text + ", 0);" + rest});
                all.add(new String[] {whole, text + " = Math.min(" + text + ", " + parts[3] + " - 1);" + rest});
                all.add(new String[] {whole, text + " = (byte) " + text + ";" + rest});
                all.add(new String[] {whole, text + " = (short) " + text + ";" + rest});
                all.add(new String[] {whole, "requireIndex(" + text + ", " + parts[3] + " - 1);"});
                all.add(new String[] {whole, "requireRange(" + text + ", 0, " + parts[3] + " - 1);"});
                break;
            }
            case "number": {
                String size = parts[4] + ".size()";
                String value = parts[3];
                String call = text + "(" + value + ")";
                all.add(new String[] {call, text + "(Math.max(" + value + ", 0))"});
                all.add(new String[] {call, text + "(Math.min(" + value + ", " + size + " - 1))"});
                all.add(new String[] {call, text + "((byte) " + value + ")"});
                all.add(new String[] {call, text + "((short) " + value + ")"});
                all.add(new String[] {call, text + "(" + value + " == " + size + " - 1 ? -1 : " + value + ")"});
                break;
            }
            default:
                String[] sides = parts[1].split(" => ", -1);
                all.add(sides);
        }
        return all;
    }

    private static String changed(String place, String[] change) {
        if (!change[0].equals("swap")) {
            int at = place.indexOf(change[0]);
            return at < 0 ? place : place.substring(0, at) + change[1] + place.substring(at + change[0].length());
        }
        int one = place.indexOf(change[1]);
        int other = place.indexOf(change[2]);
        if (one < 0 || other < one + change[1].length()) {
            return place;
        }
        return place.substring(0, one) + change[2] + place.substring(one + change[1].length(), other) + change[1]
                + place.substring(other + change[2].length());
    }

    // ---- from a mutant to what its test says

    /** A test that minds the program as it is tells nothing about a mutant. */
    private void lookAtProgram() {
        for (Sentences.Sentence sentence : Sentences.all()) {
            if (mindedBy(sentence.name) != 0) {
                complain(sentence.name, "", "it fails without a mutant");
            }
        }
    }

    private void look(String sentence, String line, String text) throws IOException, ReflectiveOperationException {
        Path folder = Files.createDirectory(work.resolve("mutant" + made));
        Path file = folder.resolve("DyeRing.java");
        made++;
        Files.writeString(file, text);
        if (compiler.run(null, null, null, "-nowarn", "-d", folder.toString(), file.toString()) != 0) {
            complain(sentence, line, "does not compile");
            return;
        }
        int minded = minded(folder, sentence);
        if (minded < 0) {
            complain(sentence, line, "is of no sentence");
        } else if (minded == 0) {
            complain(sentence, line, "is not seen");
        }
        broken.add(sentence);
    }

    private int minded(Path folder, String sentence) throws IOException, ReflectiveOperationException {
        URL[] path = {folder.toUri().toURL(), tests};
        try (URLClassLoader loader = new URLClassLoader(path, ClassLoader.getPlatformClassLoader())) {
            Object minded = loader.loadClass("Mutants").getMethod("mindedBy", String.class).invoke(null, sentence);
            return (Integer) minded;
        } catch (InvocationTargetException e) {
            return 1; // an error that ended the test: the stack or the memory ran out
        }
    }

    private void complain(String sentence, String line, String what) {
        wrong++;
        System.out.println(sentence + ": " + what + ": " + line);
    }

    private void end() {
        for (Sentences.Sentence sentence : Sentences.all()) {
            if (!broken.contains(sentence.name)) {
                complain(sentence.name, "", "no mutant breaks it");
            }
        }
        System.out.println(made + " mutants of " + broken.size() + " sentences, " + wrong + " complaints");
        if (wrong != 0 || made == 0) {
            System.exit(1);
        }
    }
}
