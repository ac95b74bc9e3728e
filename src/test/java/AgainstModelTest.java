import java.util.Random;

/** Long runs of calls, the same ones each time, on the program and on the plain model side by side. */
public final class AgainstModelTest {
    private static final int RUNS = 300;

    // Nothing is promised behind that; a text and all that is asked of it at once fit in at the end.
    private static final int MOST_CALLS = 512;
    private static final int MOST_AT_ONCE = 52;
    private static final int[] WILD = {-1, 5, 16, 31, 32, 47, 100, 10000, Integer.MAX_VALUE, Integer.MIN_VALUE, -2};

    private final Check check;
    private final Random random;
    private final int run;
    private final MudShares x = new MudShares();
    private final PlainModel m = new PlainModel();
    private int asked;

    // From which numbers a run draws what sources have: few numbers make sources alike or in one line, far ones make
    // fractions long.
    private final int[] drawn;

    private AgainstModelTest(Check check, int run) {
        this.check = check;
        this.run = run;
        random = new Random(1709 + run);
        int[][] kinds = {{0, 1, 2}, {0, 20}, {0, 1, 19, 20}, {3, 7}, null, null};
        drawn = kinds[run % kinds.length];
    }

    public static void main(String[] args) {
        Check check = new Check("AgainstModelTest");
        for (int run = 0; run < RUNS && !check.isEnough(); run++) {
            new AgainstModelTest(check, run).calls();
        }
        everyBeginning(check);
        check.end();
    }

    private void calls() {
        while (asked + MOST_AT_ONCE <= MOST_CALLS && !check.isEnough()) {
            if (random.nextInt(60) == 0 || asked == 0) {
                text(random.nextInt(4) == 0);
            } else {
                one();
            }
        }
    }

    private int number() {
        return drawn == null ? random.nextInt(21) : drawn[random.nextInt(drawn.length)];
    }

    /** An argument: mostly one that names something, sometimes one just outside or far off. */
    private int argument(int from, int to) {
        if (random.nextInt(25) == 0) return WILD[random.nextInt(WILD.length)];
        if (random.nextInt(12) == 0) return random.nextBoolean() ? from - 1 : to + 1;
        return from + random.nextInt(Math.max(1, to - from + 1));
    }

    /** Writes a text of sources, sometimes with one letter wrong or gone or too many, and reads it. */
    private void text(boolean spoilt) {
        int tracers = 1 + random.nextInt(4);
        int sources = 1 + random.nextInt(4);
        StringBuilder text = new StringBuilder();
        for (int s = 0; s < sources; s++) {
            for (int t = 0; t < tracers; t++) {
                text.append(t > 0 ? "," : s > 0 ? ";" : "").append(number());
            }
        }
        if (spoilt) {
            int at = random.nextInt(text.length());
            char c = "0123456789,; /:a-".charAt(random.nextInt(17));
            switch (random.nextInt(3)) {
                case 0 -> text.setCharAt(at, c);
                case 1 -> text.insert(at, c);
                default -> text.deleteCharAt(at);
            }
        }
        if (random.nextInt(8) != 0) {
            due("blank()", x.blank(), m.blank());
        }
        for (char c : text.toString().toCharArray()) {
            due("letter(" + (int) c + ")", x.letter(c), m.letter(c));
        }
        due("fault()", x.fault(), m.fault());
        due("sources()", x.sources(), m.sources());
        due("digest()", x.digest(), m.digest());
    }

    private void one() {
        int lastSource = m.held.length - 1;
        int lastTracer = m.tracers() - 1;
        int source = argument(0, lastSource);
        int tracer = argument(0, lastTracer);
        int used = argument(1, (1 << m.tracers()) - 1);
        int part = argument(0, 1);
        switch (random.nextInt(19)) {
            case 0, 1 -> amount(tracer);
            case 2 -> weight(tracer);
            case 3 -> alter(source, tracer);
            case 4 -> made(argument(1, (int) Math.pow(10, m.held.length) - 1));
            case 5 -> made(smallParts());
            case 6 -> has(source, argument(0, 3));
            case 7 -> tracer(tracer, argument(0, 1));
            case 8 -> alike(source, used);
            case 9, 10 -> best(used, argument(0, 3));
            case 11, 12 -> share(source, used, part);
            case 13, 14 -> press(source, used, part);
            case 15 -> mixed(tracer, used, part);
            case 16 -> corner(argument(1, (1 << m.held.length) - 1), used, argument(0, 2));
            case 17 -> count(argument(0, 4));
            default -> aside();
        }
    }

    private void aside() {
        if (random.nextInt(4) == 0) {
            due("digest()", x.digest(), m.digest());
            return;
        }
        int code = argument(32, 126);
        due("letter(" + code + ")", x.letter(code), m.letter(code));
        due("fault()", x.fault(), m.fault());
    }

    // Few parts often come out whole.
    private int smallParts() {
        int parts = 0;
        for (int s = 0; s < m.held.length; s++) parts = parts * 10 + random.nextInt(2);
        return parts;
    }

    private void amount(int tracer) {
        int v = random.nextInt(4) == 0 ? argument(0, 20) : number();
        due("set(" + tracer + ", 0, " + v + ")", x.set(tracer, 0, v), m.set(tracer, 0, v));
    }

    private void weight(int tracer) {
        int what = argument(1, 1);
        int v = argument(1, 5);
        due("set(" + tracer + ", " + what + ", " + v + ")", x.set(tracer, what, v), m.set(tracer, what, v));
    }

    private void alter(int source, int tracer) {
        int v = random.nextInt(4) == 0 ? argument(0, 20) : number();
        due("alter(" + source + ", " + tracer + ", " + v + ")", x.alter(source, tracer, v), m.alter(source, tracer, v));
    }

    private void made(int parts) {
        due("made(" + parts + ")", x.made(parts), m.made(parts));
    }

    private void has(int source, int what) {
        due("has(" + source + ", " + what + ")", x.has(source, what), m.has(source, what));
    }

    private void tracer(int tracer, int what) {
        due("tracer(" + tracer + ", " + what + ")", x.tracer(tracer, what), m.tracer(tracer, what));
    }

    private void alike(int source, int used) {
        due("alike(" + source + ", " + used + ")", x.alike(source, used), m.alike(source, used));
    }

    private void best(int used, int what) {
        due("best(" + used + ", " + what + ")", x.best(used, what), m.best(used, what));
    }

    private void share(int source, int used, int part) {
        due("share(" + source + ", " + used + ", " + part + ")", x.share(source, used, part), m.share(source, used, part));
    }

    private void press(int source, int used, int part) {
        due("press(" + source + ", " + used + ", " + part + ")", x.press(source, used, part), m.press(source, used, part));
    }

    private void mixed(int tracer, int used, int part) {
        due("mixed(" + tracer + ", " + used + ", " + part + ")", x.mixed(tracer, used, part), m.mixed(tracer, used, part));
    }

    private void corner(int set, int used, int what) {
        due("corner(" + set + ", " + used + ", " + what + ")", x.corner(set, used, what), m.corner(set, used, what));
    }

    private void count(int what) {
        due("count(" + what + ")", x.count(what), m.count(what));
    }

    private void due(String call, long got, long want) {
        asked++;
        check.due("run " + run + ": " + call, got, want);
    }

    /** Each text of up to five letters of a few kinds: its fault, and whether it is sources. */
    private static void everyBeginning(Check check) {
        String letters = "0123,; ";
        for (int length = 0; length <= 5; length++) {
            int texts = (int) Math.pow(letters.length(), length);
            for (int n = 0; n < texts && !check.isEnough(); n++) {
                StringBuilder text = new StringBuilder();
                for (int i = 0, rest = n; i < length; i++, rest /= letters.length()) {
                    text.append(letters.charAt(rest % letters.length()));
                }
                oneText(check, text.toString());
            }
        }
    }

    private static void oneText(Check check, String text) {
        MudShares x = new MudShares();
        Check.write(x, text);
        PlainModel m = new PlainModel();
        m.page.append(text);
        check.due("fault() of '" + text + "'", x.fault(), m.fault());
        check.due("sources() of '" + text + "'", x.sources(), m.sources());
    }
}
