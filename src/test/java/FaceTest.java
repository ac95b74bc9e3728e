import java.lang.reflect.Constructor;
import java.lang.reflect.Field;
import java.lang.reflect.Method;
import java.lang.reflect.Modifier;
import java.nio.file.Files;
import java.nio.file.Path;
import java.util.Arrays;
import java.util.List;
import java.util.Set;
import java.util.TreeSet;
import java.util.regex.Matcher;
import java.util.regex.Pattern;

/** The class's face as the document has it, and the rules of LANGUAGE.md that can be seen in its text. */
public final class FaceTest {
    private static final Set<String> METHODS = Set.of(
        "letter/1", "blank/0", "fault/0", "sources/0", "set/3", "alter/3", "made/1", "has/2", "tracer/2", "alike/2",
        "best/2", "share/3", "press/3", "mixed/3", "corner/3", "count/1", "digest/0");
    private static final Set<String> CONSTANTS = Set.of("NONE", "UNKNOWN", "OUTSIDE", "STATE", "FULL");

    private static final Path DOCUMENT = Path.of("../shared/DOC.md");

    // What LANGUAGE.md rules out, as words of the text behind which no letter follows.
    private static final List<String> FORBIDDEN = List.of(
        "throw", "throws", "try", "catch", "finally", "synchronized", "assert", "package", "native",
        "volatile", "transient", "Object", "Exception", "Error", "Thread", "Random", "System.out", "System.in",
        "nanoTime", "currentTimeMillis", "BigInteger", "NaN", "hashCode", "getClass");

    // The only ones of the library's classes that are not of java.lang.
    private static final String IMPORTS = "import java\\.util\\.(ArrayList|List|Arrays|Iterator|\\*);";

    // "Some" sixty, twelve and twenty: a few more are still some.
    private static final int MOST_LINES = 66;
    private static final int MOST_CLASSES = 14;
    private static final int MOST_FIELDS = 22;
    private static final int MOST_PARAMETERS = 7;

    private final Check check = new Check("FaceTest");

    public static void main(String[] args) throws Exception {
        FaceTest t = new FaceTest();
        t.face();
        t.constants();
        t.document();
        t.nested();
        String text = Files.readString(Path.of(args.length > 0 ? args[0] : "src/main/java/MudShares.java"));
        t.words(text);
        t.lengths(text);
        t.check.end();
    }

    private void face() {
        Class<?> face = MudShares.class;
        check.due("the class is public and final", Modifier.isPublic(face.getModifiers()) && Modifier.isFinal(face.getModifiers()));
        Set<String> seen = new TreeSet<>();
        for (Method m : face.getDeclaredMethods()) {
            if (Modifier.isPrivate(m.getModifiers())) {
                continue;
            }
            seen.add(m.getName() + "/" + m.getParameterCount());
            check.due(m + " is public, of the object, and answers a long", m.getReturnType() == long.class
                && Modifier.isPublic(m.getModifiers()) && !Modifier.isStatic(m.getModifiers()));
            check.due(m + " takes ints", Arrays.stream(m.getParameterTypes()).allMatch(p -> p == int.class));
        }
        check.due("the public methods are those of the document, not " + seen, seen.equals(METHODS));
        Constructor<?>[] constructors = face.getDeclaredConstructors();
        check.due("one public constructor without arguments", constructors.length == 1
            && Modifier.isPublic(constructors[0].getModifiers()) && constructors[0].getParameterCount() == 0);
    }

    private void constants() throws Exception {
        Set<String> seen = new TreeSet<>();
        for (Field f : MudShares.class.getDeclaredFields()) {
            if (Modifier.isPrivate(f.getModifiers())) {
                continue;
            }
            seen.add(f.getName());
            check.due(f + " is a public static final long", f.getType() == long.class
                && f.getModifiers() == (Modifier.PUBLIC | Modifier.STATIC | Modifier.FINAL));
        }
        check.due("the constants are those of the document, not " + seen, seen.equals(CONSTANTS));
        check.due("NONE", MudShares.NONE, -1000001L);
        check.due("UNKNOWN", MudShares.UNKNOWN, -1000002L);
        check.due("OUTSIDE", MudShares.OUTSIDE, -1000003L);
        check.due("STATE", MudShares.STATE, -1000004L);
        check.due("FULL", MudShares.FULL, -1000005L);
    }

    /** That the document's own words have the same face as this test; they may be elsewhere when it is run. */
    private void document() throws Exception {
        if (!Files.exists(DOCUMENT)) {
            System.out.println("FaceTest: no " + DOCUMENT);
            return;
        }
        String text = Files.readString(DOCUMENT);
        String face = text.substring(text.indexOf("```java"), text.indexOf("```\n", text.indexOf("```java") + 7));
        Set<String> methods = new TreeSet<>();
        Matcher m = Pattern.compile("public long (\\w+)\\(([^)]*)\\);").matcher(face);
        while (m.find()) {
            methods.add(m.group(1) + "/" + (m.group(2).isEmpty() ? 0 : m.group(2).split(",").length));
        }
        check.due("the document has these methods, not " + methods, methods.equals(METHODS));
        Set<String> constants = new TreeSet<>();
        m = Pattern.compile("([A-Z]+) = (-\\d+)L").matcher(face);
        while (m.find()) {
            constants.add(m.group(1));
            check.due(m.group(1), MudShares.class.getField(m.group(1)).getLong(null), Long.parseLong(m.group(2)));
        }
        check.due("the document has these constants, not " + constants, constants.equals(CONSTANTS));
    }

    private void nested() {
        Class<?>[] inside = MudShares.class.getDeclaredClasses();
        check.due("not too many classes", inside.length <= MOST_CLASSES);
        members(MudShares.class);
        for (Class<?> c : inside) {
            int modifiers = c.getModifiers();
            check.due(c + " is static, and not seen from outside",
                Modifier.isStatic(modifiers) && !Modifier.isPublic(modifiers) && !Modifier.isProtected(modifiers));
            members(c);
        }
    }

    private void members(Class<?> c) {
        int fields = 0;
        for (Field f : c.getDeclaredFields()) {
            boolean fixed = Modifier.isStatic(f.getModifiers());
            check.due(f + " is final if it is static", !fixed || Modifier.isFinal(f.getModifiers()));
            fields += fixed ? 0 : 1;
        }
        check.due(c + " has not too many fields", fields <= MOST_FIELDS);
        for (Method m : c.getDeclaredMethods()) {
            check.due(m + " has not too many parameters", m.getParameterCount() <= MOST_PARAMETERS);
            boolean ofFace = c == MudShares.class && Modifier.isPublic(m.getModifiers());
            boolean named = METHODS.stream().anyMatch(name -> name.startsWith(m.getName() + "/"));
            check.due(m + " does not bear the name of a public one", ofFace || !named);
        }
    }

    private void words(String text) {
        String code = text.replaceAll("(?s)/\\*.*?\\*/", " ").replaceAll("//[^\n]*", " ");
        for (String word : FORBIDDEN) {
            String pattern = "(?s).*(?<![A-Za-z])" + word.replace(".", "\\.") + "(?![A-Za-z]).*";
            check.due("the text has no '" + word + "'", !code.matches(pattern));
        }
        // An arrow stands in a switch alone.
        String apart = code.replaceAll("(case [^:;{}>]*|default *)->", " ");
        check.due("no lambda, no method reference", !apart.contains("->") && !apart.contains("::"));
        for (String line : code.split("\n")) {
            boolean isImport = line.strip().startsWith("import ");
            check.due("'" + line.strip() + "' is of the library that is left", !isImport || line.strip().matches(IMPORTS));
        }
        check.due("nothing that ends in Exact", !code.contains("Exact("));
        check.due("signs 1 to 127 alone", text.chars().allMatch(c -> c >= 1 && c <= 127));
        check.due("no static block", !code.matches("(?s).*static\\s*\\{.*"));
    }

    /** Methods are told by their indents: a head at four or eight blanks, its end at the same. */
    private void lengths(String text) {
        String[] lines = text.split("\n", -1);
        for (int i = 0; i < lines.length; i++) {
            if (!lines[i].matches(" {4,8}[a-z][^=;]*\\) \\{") || lines[i].matches(" *(for|if|while|switch) .*")) {
                continue;
            }
            String end = lines[i].replaceAll("\\S.*", "") + "}";
            int last = i;
            while (last < lines.length && !lines[last].equals(end)) {
                last++;
            }
            check.due("the method at line " + (i + 1) + " is short", last - i <= MOST_LINES);
        }
    }
}
