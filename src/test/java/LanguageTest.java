import com.sun.source.tree.CompilationUnitTree;
import com.sun.source.util.JavacTask;
import com.sun.source.util.Trees;
import java.nio.file.Path;
import java.util.List;
import javax.tools.JavaCompiler;
import javax.tools.StandardJavaFileManager;
import javax.tools.ToolProvider;

/**
 * The rules of LANGUAGE.md that can be seen in the program as javac reads it. Where a rule says "some", or leaves to the
 * reader what is meant, the test takes it widely: it refuses only what the rule's words surely refuse.
 */
public final class LanguageTest {
    // Eight calls below a call of the face.
    private static final int DEEPEST = 9;

    private final Check check = new Check("LanguageTest");
    private final LanguageRules rules;

    private LanguageTest(Path file) throws Exception {
        JavaCompiler compiler = ToolProvider.getSystemJavaCompiler();
        try (StandardJavaFileManager files = compiler.getStandardFileManager(null, null, null)) {
            JavacTask task = (JavacTask) compiler.getTask(null, files, null, List.of("-proc:none"), null,
                files.getJavaFileObjects(file));
            Iterable<? extends CompilationUnitTree> units = task.parse();
            task.analyze();
            rules = new LanguageRules(Trees.instance(task));
            units.forEach(unit -> rules.scan(unit, null));
        }
    }

    public static void main(String[] args) throws Exception {
        LanguageTest t = new LanguageTest(Path.of(args.length > 0 ? args[0] : "src/main/java/MudShares.java"));
        t.classes();
        t.wordsOfTheLanguage();
        t.calls();
        t.check.due("methods were looked at", t.rules.calls.methods() > 17);
        t.check.end();
    }

    /** That nothing was seen which breaks a rule. */
    private void hold(String words) {
        check.says(words);
        List<String> seen = rules.breaks(words);
        check.due("there is " + seen, seen.size(), 0);
    }

    private void classes() {
        hold("one file without a package line");
        hold("rule 2: classes inside are static, none local or anonymous");
        hold("rule 2: an enum's fields are int, long, boolean or String");
        hold("rule 2: no lambda, no method reference");
        hold("rule 3: types");
        hold("rule 4: constants, whose signs are 1 to 127");
        hold("rule 4: the library");
        hold("rule 5: static fields are final");
        hold("rule 5: constants, and arrays that are never changed");
        hold("rule 5: no static initialiser block");
    }

    private void wordsOfTheLanguage() {
        hold("rule 6: no throw, try, catch, synchronized, assert");
        hold("rule 6: never == between two Strings or two Integers");
        hold("rule 6: no equals, hashCode or toString of your own objects");
        hold("rule 10: joining texts not by +");
        hold("rule 11: at most seven parameters");
    }

    private void calls() {
        hold("rule 12: a constructor calls no method that another class could override");
        hold("rule 12: a constructor hands out nothing of the object that it makes");
        check.says("rule 11: calls that are no recursion go at most eight deep");
        List<String> chain = rules.calls.longest();
        check.due("it goes deeper: " + chain, chain.size() <= DEEPEST);
    }
}
