import java.io.File;
import java.nio.file.Files;
import java.nio.file.Path;
import java.util.ArrayList;
import java.util.Comparator;
import java.util.List;
import java.util.Set;
import java.util.TreeSet;
import java.util.concurrent.ExecutorService;
import java.util.concurrent.Executors;
import java.util.concurrent.Future;
import java.util.concurrent.TimeUnit;
import java.util.regex.Matcher;
import java.util.regex.Pattern;
import java.util.stream.Stream;
import javax.tools.ToolProvider;

/**
 * Shows that each sentence's own test fails if that sentence is broken: breaks the class by each change of sentences.txt,
 * and looks whether the test that says the sentence finds it. Run by hand, from the project's folder:
 * java src/test/broken/BrokenSentences.java. No test of .ci/run, since it hangs on the words of the class.
 */
public final class BrokenSentences {
    private static final Path CLASS = Path.of("src/main/java/MudShares.java");
    private static final Path CHANGES = Path.of("src/test/broken/sentences.txt");
    private static final Path TESTS = Path.of("src/test/java");
    private static final Pattern SAID = Pattern.compile("(?:says|hold)\\(\"([^\"]*)\"");
    private static final int MOST_SECONDS = 60;

    /** Behind the line with the words "behind" the text "from" becomes the text "to". */
    private record Change(String sentence, String behind, String from, String to) {
        String on(String text) {
            int start = behind.isEmpty() ? 0 : text.indexOf(behind);
            int at = start < 0 ? -1 : text.indexOf(from, start);
            boolean twice = behind.isEmpty() && at >= 0 && text.indexOf(from, at + 1) >= 0;
            return at < 0 || twice ? null : text.substring(0, at) + to + text.substring(at + from.length());
        }
    }

    private final Path out;
    private final String text;
    private final List<String> testers = new ArrayList<>();
    private final Set<String> sentences = new TreeSet<>();

    private BrokenSentences(Path out) throws Exception {
        this.out = out;
        text = Files.readString(CLASS);
    }

    public static void main(String[] args) throws Exception {
        Path out = Files.createTempDirectory("broken");
        boolean all = new BrokenSentences(out).allAreFound();
        try (Stream<Path> files = Files.walk(out)) {
            files.sorted(Comparator.reverseOrder()).map(Path::toFile).forEach(File::delete);
        }
        System.exit(all ? 0 : 1);
    }

    private boolean allAreFound() throws Exception {
        compileTests();
        List<Change> changes = changes();
        ExecutorService workers = Executors.newFixedThreadPool(Runtime.getRuntime().availableProcessors());
        List<Future<String>> answers = new ArrayList<>();
        for (int n = 0; n < changes.size(); n++) {
            Change change = changes.get(n);
            Path folder = out.resolve("n" + n);
            answers.add(workers.submit(() -> wrongWith(change, folder)));
            sentences.remove(change.sentence);
        }
        int wrong = 0;
        for (int n = 0; n < changes.size(); n++) {
            String answer = answers.get(n).get();
            if (answer.isEmpty()) continue;
            wrong++;
            System.out.println(answer + "\n    " + changes.get(n));
        }
        workers.shutdown();
        sentences.forEach(sentence -> System.out.println("no change breaks [" + sentence + "]"));
        System.out.println(changes.size() + " changes, " + wrong + " not found by the sentence's own test, "
            + sentences.size() + " sentences without a change");
        return wrong == 0 && sentences.isEmpty();
    }

    private void compileTests() throws Exception {
        List<String> files = new ArrayList<>(List.of("-d", out.toString(), CLASS.toString()));
        try (Stream<Path> tests = Files.list(TESTS)) {
            for (Path file : tests.toList()) {
                files.add(file.toString());
                Matcher m = SAID.matcher(Files.readString(file));
                boolean tells = false;
                while (m.find()) {
                    sentences.add(m.group(1));
                    tells = true;
                }
                if (tells) testers.add(file.getFileName().toString().replace(".java", ""));
            }
        }
        if (ToolProvider.getSystemJavaCompiler().run(null, null, null, files.toArray(String[]::new)) != 0) {
            throw new IllegalStateException("the tests don't compile");
        }
    }

    /** Rows of sentences.txt: "[sentence]", then perhaps "@ behind", then "- from" and "+ to", of one line each or more. */
    private static List<Change> changes() throws Exception {
        List<Change> changes = new ArrayList<>();
        String sentence = "";
        String behind = "";
        StringBuilder from = new StringBuilder();
        StringBuilder to = new StringBuilder();
        for (String line : (Files.readString(CHANGES) + "\n\n").split("\n", -1)) {
            if (line.startsWith("[")) sentence = line.substring(1, line.length() - 1);
            if (line.startsWith("@ ")) behind = line.substring(2);
            if (line.startsWith("- ")) from.append(from.isEmpty() ? "" : "\n").append(line.substring(2));
            if (line.startsWith("+ ")) to.append(to.isEmpty() ? "" : "\n").append(line.substring(2));
            if (!line.isBlank() || from.isEmpty()) continue;
            changes.add(new Change(sentence, behind, from.toString(), to.toString()));
            behind = "";
            from.setLength(0);
            to.setLength(0);
        }
        return changes;
    }

    /** Empty, if the test that says the sentence finds the change. */
    private String wrongWith(Change change, Path folder) throws Exception {
        String broken = change.on(text);
        if (broken == null) return "the text is not there, or more than once:";
        Files.createDirectories(folder);
        Path file = Files.writeString(folder.resolve("MudShares.java"), broken);
        if (ToolProvider.getSystemJavaCompiler().run(null, null, null, "-d", folder.toString(), file.toString()) != 0) {
            return "does not compile:";
        }
        for (String tester : testers) {
            if (output(tester, folder).contains("[" + change.sentence + "]")) return "";
        }
        return "not found by its own test:";
    }

    private String output(String tester, Path folder) throws Exception {
        File told = folder.resolve(tester + ".txt").toFile();
        Process p = new ProcessBuilder("java", "-cp", folder + File.pathSeparator + out, tester, folder + "/MudShares.java")
            .redirectErrorStream(true).redirectOutput(told).start();
        if (!p.waitFor(MOST_SECONDS, TimeUnit.SECONDS)) {
            p.destroyForcibly().waitFor();
        }
        return Files.readString(told.toPath());
    }
}
