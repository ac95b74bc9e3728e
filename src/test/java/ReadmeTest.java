import java.net.URL;
import java.net.URLClassLoader;
import java.nio.file.Files;
import java.nio.file.Path;
import java.util.ArrayList;
import java.util.Comparator;
import java.util.List;
import java.util.Set;
import java.util.TreeSet;
import java.util.regex.Matcher;
import java.util.regex.Pattern;
import java.util.stream.Stream;
import javax.tools.ToolProvider;

/**
 * What README.md says is so: its Java rows, one behind the other, compile and answer what stands behind them ("// 3: ..");
 * each call of the face is among them or named; and the files and tests that it names are there, and no others.
 */
public final class ReadmeTest {
    private static final Path README = Path.of("README.md");
    private static final Path TESTS = Path.of("src/test/java");
    private static final Pattern ROW = Pattern.compile("(?m)^(x\\.[a-z]+\\(.*?\\));\\s*// (-?\\d+|[A-Z]+): .*$");
    private static final Pattern ASKED = Pattern.compile("(?m)^x\\..*$");
    private static final Pattern JAVA = Pattern.compile("(?s)```java\n(.*?)```");
    private static final Pattern CODE = Pattern.compile("`([^`\n]+)`");
    private static final Set<String> CALLS = Set.of("letter", "blank", "fault", "sources", "set", "alter", "made", "has",
        "tracer", "alike", "best", "share", "press", "mixed", "corner", "count", "digest");

    private final Check check = new Check("ReadmeTest");
    private final String text;

    private ReadmeTest() throws Exception {
        text = Files.readString(README);
    }

    public static void main(String[] args) throws Exception {
        ReadmeTest t = new ReadmeTest();
        String rows = t.javaRows();
        t.eachRowHasAnAnswer(rows);
        t.answers(rows);
        t.calls();
        t.tests();
        t.files();
        t.check.end();
    }

    private String javaRows() {
        StringBuilder rows = new StringBuilder();
        Matcher m = JAVA.matcher(text);
        while (m.find()) rows.append(m.group(1));
        return rows.toString();
    }

    private void eachRowHasAnAnswer(String rows) {
        long asked = ASKED.matcher(rows).results().count();
        check.due("rows of README.md with an answer behind them", ROW.matcher(rows).results().count(), asked);
        check.due("README.md asks something", asked > 0);
    }

    /** The rows become a program, whose answers are then looked at. */
    private void answers(String rows) throws Exception {
        List<String> asked = ROW.matcher(rows).results().map(m -> m.group(1)).toList();
        List<Long> due = ROW.matcher(rows).results().map(m -> answer(m.group(2))).toList();
        String program = "public final class Readme {\n    public static void rows(java.util.List<Long> told) {\n"
            + ROW.matcher(rows).replaceAll("told.add($1);") + "    }\n}\n";
        Path folder = Files.createTempDirectory("readme");
        List<Long> told = new ArrayList<>();
        try {
            run(program, folder, told);
        } finally {
            delete(folder);
        }
        check.due("how many answers README.md has", told.size(), due.size());
        for (int i = 0; i < Math.min(told.size(), due.size()); i++) {
            check.due("README.md: " + asked.get(i), told.get(i), due.get(i));
        }
    }

    private static long answer(String word) {
        return switch (word) {
            case "NONE" -> Story.NONE;
            case "UNKNOWN" -> Story.UNKNOWN;
            case "OUTSIDE" -> Story.OUTSIDE;
            case "STATE" -> Story.STATE;
            case "FULL" -> Story.FULL;
            default -> Long.parseLong(word);
        };
    }

    private void run(String program, Path folder, List<Long> told) throws Exception {
        Path file = Files.writeString(folder.resolve("Readme.java"), program);
        int code = ToolProvider.getSystemJavaCompiler().run(null, null, null, "-proc:none", "-cp",
            System.getProperty("java.class.path"), "-d", folder.toString(), file.toString());
        check.due("the rows of README.md compile", code, 0);
        if (code != 0) return;
        try (URLClassLoader loader = new URLClassLoader(new URL[] {folder.toUri().toURL()})) {
            loader.loadClass("Readme").getMethod("rows", List.class).invoke(null, told);
        }
    }

    private static void delete(Path folder) throws Exception {
        try (Stream<Path> files = Files.walk(folder)) {
            for (Path file : files.sorted(Comparator.reverseOrder()).toList()) Files.delete(file);
        }
    }

    private void calls() {
        for (String call : CALLS) {
            check.due("README.md tells of " + call + "()", text.contains("x." + call + "(") || text.contains("`" + call + "()"));
        }
        for (String name : List.of("NONE", "UNKNOWN", "OUTSIDE", "STATE", "FULL")) {
            check.due("README.md tells of " + name, text.contains(name + ": ") || text.contains("`" + name + "`"));
        }
    }

    private void tests() throws Exception {
        Set<String> named = new TreeSet<>();
        Matcher m = Pattern.compile("`([A-Z][A-Za-z]*)`").matcher(text);
        while (m.find()) {
            if (!m.group(1).equals("MudShares") && !m.group(1).equals("FULL")) named.add(m.group(1));
        }
        Set<String> there = new TreeSet<>();
        try (Stream<Path> files = Files.list(TESTS)) {
            files.forEach(f -> there.add(f.getFileName().toString().replace(".java", "")));
        }
        check.due("README.md names the tests that are there, " + there + ", not " + named, named.equals(there));
    }

    /** Names with a path, of which none is a pattern or made by a command. */
    private void files() {
        Matcher m = CODE.matcher(text);
        while (m.find()) {
            String name = m.group(1);
            boolean isPath = name.matches("[.\\w/]+") && name.contains("/");
            check.due(name + " is there", !isPath || name.startsWith("../") || Files.exists(Path.of(name)));
        }
        check.due(".ci/run can be run", Files.isExecutable(Path.of(".ci/run")));
    }
}
