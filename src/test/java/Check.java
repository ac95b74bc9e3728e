import java.util.Set;
import java.util.TreeSet;

/** Counts what is not as due, and ends the test with exit code 1 if there was something. */
final class Check {
    private static final long MOST_MILLISECONDS = 300_000;

    private final String name;
    private final Set<String> sentences = new TreeSet<>();
    private volatile String sentence = "";
    private int asked;
    private int wrong;
    private int wrongBefore;

    // Texts of tests that were not read as sources: what is asked then shows little.
    private static int unread;

    Check(String name) {
        this.name = name;
        Thread watch = new Thread(this::failLate);
        watch.setDaemon(true);
        watch.start();
    }

    /** A call that does not end is not as due: a test is given five minutes, and takes seconds. */
    private void failLate() {
        try {
            Thread.sleep(MOST_MILLISECONDS);
        } catch (InterruptedException e) {
            return;
        }
        System.out.println(name + sentence + ": does not end");
        Runtime.getRuntime().halt(1);
    }

    /** What is asked from here on shows whether this sentence of the document holds. */
    void says(String words) {
        sentence = " [" + words + "]";
        wrongBefore = wrong;
        if (!sentences.add(words)) {
            due("the sentence is told once alone", false);
        }
    }

    void due(String call, long got, long want) {
        asked++;
        if (got != want) {
            wrong++;
            if (!isEnough()) {
                System.out.println(name + sentence + ": " + call + " answered " + got + ", due is " + want);
            }
        }
    }

    void due(String what, boolean holds) {
        due(what, holds ? 1 : 0, 1);
    }

    /** So that a broken program does not fill the screen; each sentence is asked for some time. */
    boolean isEnough() {
        return wrong - wrongBefore > 20;
    }

    void end() {
        String told = sentences.isEmpty() ? "" : sentences.size() + " sentences, ";
        System.out.println(name + ": " + told + asked + " asked, " + wrong + " not as due");
        if (wrong != 0 || unread != 0 || asked == 0) {
            System.exit(1);
        }
    }

    /** Puts a text behind the page. */
    static void write(MudShares x, String text) {
        for (int i = 0; i < text.length(); i++) {
            x.letter(text.charAt(i));
        }
    }

    /** A new object with these sources. */
    static MudShares of(String text) {
        MudShares x = new MudShares();
        write(x, text);
        if (x.sources() < 1) {
            unread++;
            System.out.println("not read as sources: " + text);
        }
        return x;
    }
}
