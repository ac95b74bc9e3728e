import java.util.ArrayList;
import java.util.Arrays;
import java.util.List;

/**
 * "Refusals, of several the first as told by each call; they change nothing": each call with all its arguments right,
 * with each of them just outside on either side or far off, and with several of them so at once; without SOURCES, and
 * with each number of SOURCES and of TRACERS.
 */
public final class RefusalsTest {
    private static final int MIN = Integer.MIN_VALUE;
    private static final int MAX = Integer.MAX_VALUE;

    /** An argument: the least and the greatest number that it may be, and how a call refuses others. */
    private record Argument(int least, int greatest, long refusal) {
        boolean takes(int number) {
            return number >= least && number <= greatest;
        }

        /** The edges on both sides, and some numbers that are the same as right ones when cut to fewer bits. */
        List<Integer> edges() {
            List<Integer> numbers = new ArrayList<>(List.of(least - 1, greatest + 1, MIN, MAX, least + 256));
            for (int number : new int[] {least, greatest}) {
                if (takes(number) && !numbers.contains(number)) numbers.add(number);
            }
            return numbers;
        }
    }

    private interface Call {
        long with(MudShares x, int[] given);
    }

    private final Check check = new Check("RefusalsTest");
    private int sources;
    private int tracers;

    // Whether it is asked what changes, or what is answered.
    private boolean ofChanges;

    public static void main(String[] args) {
        RefusalsTest t = new RefusalsTest();
        t.check.says("Refusals, of several the first as told by each call");
        t.eachMud();
        t.ofChanges = true;
        t.check.says("Refusals: they change nothing");
        t.eachMud();
        t.check.end();
    }

    private void eachMud() {
        sources = 0;
        tracers = 0;
        all();
        for (int shape = 0; shape < 16; shape++) {
            sources = 1 + shape / 4;
            tracers = 1 + shape % 4;
            all();
        }
    }

    private void all() {
        Argument source = new Argument(0, sources - 1, Story.UNKNOWN);
        Argument tracer = new Argument(0, tracers - 1, Story.UNKNOWN);
        Argument used = outside(1, (1 << tracers) - 1);
        Argument set = outside(1, (1 << sources) - 1);
        Argument part = outside(0, 1);
        Argument amount = outside(0, 20);
        one("letter", (x, a) -> x.letter(a[0]), 0, outside(32, 126));
        // set() has two kinds of v, so each what is a call of its own, and a what that is none takes no v at all.
        one("set", (x, a) -> x.set(a[0], a[1], a[2]), 0, tracer, outside(0, 0), amount);
        one("set", (x, a) -> x.set(a[0], a[1], a[2]), 0, tracer, outside(1, 1), outside(1, 5));
        one("alter", (x, a) -> x.alter(a[0], a[1], a[2]), 0, source, tracer, amount);
        one("made", (x, a) -> x.made(a[0]), Story.STATE, outside(1, (int) Math.pow(10, sources) - 1));
        one("has", (x, a) -> x.has(a[0], a[1]), 0, source, outside(0, 3));
        one("tracer", (x, a) -> x.tracer(a[0], a[1]), 0, tracer, part);
        one("alike", (x, a) -> x.alike(a[0], a[1]), 0, source, used);
        one("best", (x, a) -> x.best(a[0], a[1]), Story.STATE, used, outside(0, 3));
        one("share", (x, a) -> x.share(a[0], a[1], a[2]), 0, source, used, part);
        one("press", (x, a) -> x.press(a[0], a[1], a[2]), 0, source, used, part);
        one("mixed", (x, a) -> x.mixed(a[0], a[1], a[2]), 0, tracer, used, part);
        one("corner", (x, a) -> x.corner(a[0], a[1], a[2]), Story.STATE, set, used, outside(0, 2));
        one("count", (x, a) -> x.count(a[0]), 0, outside(0, 4));
    }

    private static Argument outside(int least, int greatest) {
        return new Argument(least, greatest, Story.OUTSIDE);
    }

    /** Each row of edges of the arguments; without is the refusal if there are no SOURCES, or 0. */
    private void one(String name, Call call, long without, Argument... arguments) {
        List<int[]> rows = new ArrayList<>();
        rows.add(new int[arguments.length]);
        for (int i = 0; i < arguments.length; i++) {
            List<int[]> longer = new ArrayList<>();
            for (int[] row : rows) {
                for (int number : arguments[i].edges()) {
                    int[] next = row.clone();
                    next[i] = number;
                    longer.add(next);
                }
            }
            rows = longer;
        }
        for (int[] row : rows) {
            if (!check.isEnough()) ask(name, call, without, arguments, row);
        }
    }

    private void ask(String name, Call call, long without, Argument[] arguments, int[] row) {
        if (name.equals("set") && isOtherKind(arguments, row)) return;
        MudShares x = mud();
        long before = x.digest();
        long answer = call.with(x, row);
        long due = refusal(without, arguments, row);
        String words = sources + " by " + tracers + ": " + name + Arrays.toString(row);
        if (ofChanges) {
            check.due(words + " changes nothing: digest()", due == 0 || x.digest() == before);
        } else if (due == 0) {
            check.due(words + " is not refused", !Story.isRefusal(answer));
        } else {
            check.due(words, answer, due);
        }
    }

    // What is a right one of the other kind of set(): it is asked there.
    private static boolean isOtherKind(Argument[] arguments, int[] row) {
        return !arguments[1].takes(row[1]) && (row[1] == 0 || row[1] == 1);
    }

    private long refusal(long without, Argument[] arguments, int[] row) {
        if (sources == 0 && without != 0) return without;
        long first = 0;
        for (int i = 0; i < row.length; i++) {
            // Every call tells its UNKNOWN ahead of its OUTSIDE.
            if (!arguments[i].takes(row[i]) && (first == 0 || arguments[i].refusal == Story.UNKNOWN)) {
                first = arguments[i].refusal;
            }
        }
        return first;
    }

    /** So many sources that all are alike, so that each mixture made comes out whole; and something on the page. */
    private MudShares mud() {
        String source = "7" + ",7".repeat(Math.max(0, tracers - 1));
        MudShares x = sources == 0 ? new MudShares() : Check.of(source + (";" + source).repeat(sources - 1));
        if (sources > 0) x.set(0, 0, 3);
        Check.write(x, "5;");
        return x;
    }
}
