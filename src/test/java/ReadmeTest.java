import java.io.IOException;
import java.lang.reflect.Field;
import java.lang.reflect.Method;
import java.lang.reflect.Modifier;
import java.nio.file.DirectoryStream;
import java.nio.file.Files;
import java.nio.file.Path;
import java.util.ArrayList;
import java.util.List;
import java.util.TreeSet;
import java.util.regex.Matcher;
import java.util.regex.Pattern;
import java.util.stream.Collectors;
import java.util.stream.Stream;

/** README.md, followed word for word from the project's folder. */
public final class ReadmeTest {
    private static final Path PROGRAM = Path.of("src/main/java/DyeRing.java");
    private static final Pattern SAVE_AS = Pattern.compile("Save this program as `([^`]+)`");
    private static final Pattern QUOTED = Pattern.compile("`([^`\n]+)`");
    private static final Pattern CALL = Pattern.compile("(\\w+)\\((.*)\\)");
    private static final Pattern PARAMETERS = Pattern.compile("public int (\\w+)\\(([^)]*)\\)");

    private static final Checks checks = new Checks();

    public static void main(String[] args) throws IOException, InterruptedException {
        String readme = Files.readString(Path.of("README.md"));
        example(readme);
        commandsOfTests(readme);
        calls(readme);
        constants(readme);
        paths(readme);
        tests(readme);
        checks.end("ReadmeTest");
    }

    // ---- how to use the class

    /** In a folder that holds the program alone, so that nothing else can help. */
    private static void example(String readme) throws IOException, InterruptedException {
        checks.begin("the example");
        Matcher name = SAVE_AS.matcher(readme);
        checks.same("it names the program's file", String.valueOf(name.find()), "true");
        Path folder = Files.createTempDirectory("readme");
        try {
            copy(PROGRAM.toString(), Files.readString(PROGRAM), folder);
            copy(name.group(1), blocks(readme, "java").get(0), folder);
            checks.same("what it prints", run(blocks(readme, "sh").get(0), folder), blocks(readme, "text").get(0));
        } finally {
            remove(folder);
        }
    }

    private static void copy(String name, String text, Path folder) throws IOException {
        Path file = folder.resolve(name);
        Files.createDirectories(file.getParent());
        Files.writeString(file, text);
    }

    private static String run(String commands, Path folder) throws IOException, InterruptedException {
        Process process = new ProcessBuilder("sh", "-e", "-c", commands).directory(folder.toFile())
                .redirectError(ProcessBuilder.Redirect.INHERIT).start();
        process.getOutputStream().close();
        String printed = new String(process.getInputStream().readAllBytes());
        checks.same("the exit code", String.valueOf(process.waitFor()), "0");
        return printed;
    }

    private static void remove(Path folder) throws IOException {
        List<Path> found;
        try (Stream<Path> all = Files.walk(folder)) {
            found = all.collect(Collectors.toCollection(ArrayList::new));
        }
        for (int i = found.size() - 1; i >= 0; i--) {
            Files.delete(found.get(i));
        }
    }

    /** The texts between a line ```kind and the next line ```. */
    private static List<String> blocks(String readme, String kind) {
        List<String> found = new ArrayList<>();
        Matcher block = Pattern.compile("^```" + kind + "\n(.*?)^```$", Pattern.MULTILINE | Pattern.DOTALL)
                .matcher(readme);
        while (block.find()) {
            found.add(block.group(1));
        }
        return found;
    }

    /** The words between ` and ` outside the blocks. */
    private static TreeSet<String> quoted(String readme) {
        String prose = Pattern.compile("^```.*?^```$", Pattern.MULTILINE | Pattern.DOTALL).matcher(readme).replaceAll("");
        TreeSet<String> words = new TreeSet<>();
        Matcher word = QUOTED.matcher(prose);
        while (word.find()) {
            words.add(word.group(1));
        }
        return words;
    }

    /** Each call of the face, with the names of its parameters, and no other. */
    private static void calls(String readme) throws IOException {
        checks.begin("the calls");
        TreeSet<String> told = new TreeSet<>();
        for (String word : quoted(readme)) {
            if (CALL.matcher(word).matches()) {
                told.add(word);
            }
        }
        TreeSet<String> due = new TreeSet<>();
        Matcher method = PARAMETERS.matcher(Files.readString(PROGRAM));
        while (method.find()) {
            due.add(method.group(1) + "(" + method.group(2).replace("int ", "") + ")");
        }
        checks.same("what README.md tells", told.toString(), due.toString());
        int methods = 0;
        for (Method each : DyeRing.class.getDeclaredMethods()) {
            methods += Modifier.isPublic(each.getModifiers()) ? 1 : 0;
        }
        checks.same("how many there are", String.valueOf(due.size()), String.valueOf(methods));
    }

    private static void constants(String readme) {
        checks.begin("the constants");
        for (Field field : DyeRing.class.getFields()) {
            boolean told = quoted(readme).contains(field.getName());
            checks.same(field.getName() + " is told", String.valueOf(told), "true");
        }
    }

    // ---- how to run the tests

    private static void commandsOfTests(String readme) {
        checks.begin("the commands of the tests");
        List<String> commands = blocks(readme, "sh");
        checks.same("how many there are", String.valueOf(commands.size()), "3");
        for (String command : commands.subList(1, commands.size())) {
            boolean runs = Files.isExecutable(Path.of(command.strip()));
            checks.same(command.strip() + " can be run", String.valueOf(runs), "true");
        }
    }

    private static void paths(String readme) {
        checks.begin("what README.md names");
        for (String word : quoted(readme)) {
            if (word.contains("/") && !word.startsWith("build/")) {
                checks.same(word + " is there", String.valueOf(Files.exists(Path.of(word))), "true");
            }
        }
    }

    private static void tests(String readme) throws IOException {
        checks.begin("the tests");
        TreeSet<String> due = new TreeSet<>();
        try (DirectoryStream<Path> files = Files.newDirectoryStream(Path.of("src/test/java"), "*Test.java")) {
            for (Path file : files) {
                due.add(file.getFileName().toString().replace(".java", ""));
            }
        }
        TreeSet<String> told = quoted(readme).stream().filter(word -> word.matches("\\w+Test"))
                .collect(Collectors.toCollection(TreeSet::new));
        checks.same("what README.md tells", told.toString(), due.toString());
    }
}
