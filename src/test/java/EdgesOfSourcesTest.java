/** Each sentence of the document that names an edge of what is asked of SOURCES and TRACERS: promises 9 to 11. */
public final class EdgesOfSourcesTest {
    private final Check check = new Check("EdgesOfSourcesTest");

    public static void main(String[] args) {
        EdgesOfSourcesTest t = new EdgesOfSourcesTest();
        t.hasSource();
        t.hasWhat();
        t.hasNone();
        t.hasFirstRefusal();
        t.tracerUnknown();
        t.tracerWhat();
        t.tracerFirstRefusal();
        t.alikeItself();
        t.alikeLeast();
        t.alikeByUsed();
        t.alikeSource();
        t.alikeUsed();
        t.alikeFirstRefusal();
        t.check.end();
    }

    private Story story() {
        return new Story(check);
    }

    /** So many sources, of so many tracers each, that all have the same. */
    private static String same(int sources, int tracers) {
        String one = "9" + ",9".repeat(tracers - 1);
        return one + (";" + one).repeat(sources - 1);
    }

    // ---- promise 9

    private void hasSource() {
        check.says("9: UNKNOWN: source");
        for (int sources = 1; sources <= 4; sources++) {
            story().read(same(sources, 2)).due("has(-1, 0) UNKNOWN", "has(0, 0) 9", "has(" + (sources - 1) + ", 0) 9",
                "has(" + sources + ", 0) UNKNOWN", "has(4, 0) UNKNOWN", "has(MIN, 0) UNKNOWN", "has(MAX, 0) UNKNOWN",
                "has(256, 0) UNKNOWN");
        }
        story().due("has(0, 0) UNKNOWN");
    }

    private void hasWhat() {
        check.says("9: OUTSIDE: what");
        story().read("1,2,3,4;5,6,7,8").due("has(1, -1) OUTSIDE", "has(1, 0) 5", "has(1, 3) 8", "has(1, 4) OUTSIDE",
            "has(0, -1) OUTSIDE", "has(0, 4) OUTSIDE", "has(1, MIN) OUTSIDE", "has(1, MAX) OUTSIDE",
            "has(0, 256) OUTSIDE");
        story().read("5").due("has(0, -1) OUTSIDE", "has(0, 4) OUTSIDE");
    }

    private void hasNone() {
        check.says("9: what = 0 to 3 what it has of that TRACER (NONE: there is no such TRACER)");
        story().read("20").due("has(0, 0) 20", "has(0, 1) NONE", "has(0, 2) NONE", "has(0, 3) NONE");
        story().read("0,1").due("has(0, 0) 0", "has(0, 1) 1", "has(0, 2) NONE", "has(0, 3) NONE");
        story().read("0,1,2").due("has(0, 2) 2", "has(0, 3) NONE");
        story().read("0,1,2,0").due("has(0, 2) 2", "has(0, 3) 0");
    }

    private void hasFirstRefusal() {
        check.says("9: of several the first: UNKNOWN: source; OUTSIDE: what");
        story().read("1,2").due("has(1, 4) UNKNOWN", "has(-1, -1) UNKNOWN", "has(1, 3) UNKNOWN", "has(0, 3) NONE");
        story().due("has(0, 4) UNKNOWN", "has(0, -1) UNKNOWN");
    }

    // ---- promise 10

    private void tracerUnknown() {
        check.says("10: UNKNOWN: tracer");
        for (int tracers = 1; tracers <= 4; tracers++) {
            story().read(same(2, tracers)).due("tracer(-1, 0) UNKNOWN", "tracer(0, 0) 0", "tracer(" + (tracers - 1) + ", 1) 1",
                "tracer(" + tracers + ", 0) UNKNOWN", "tracer(" + tracers + ", 1) UNKNOWN", "tracer(4, 0) UNKNOWN",
                "tracer(MIN, 0) UNKNOWN", "tracer(MAX, 1) UNKNOWN", "tracer(256, 0) UNKNOWN");
        }
        story().due("tracer(0, 0) UNKNOWN", "tracer(0, 1) UNKNOWN");
    }

    private void tracerWhat() {
        check.says("10: what = 0 AMOUNT, 1 WEIGHT; OUTSIDE: what");
        story().read("1,2").due("set(1, 0, 20) 0", "set(1, 1, 5) 1", "tracer(1, -1) OUTSIDE", "tracer(1, 0) 20",
            "tracer(1, 1) 5", "tracer(1, 2) OUTSIDE", "tracer(1, 3) OUTSIDE", "tracer(1, MIN) OUTSIDE",
            "tracer(1, MAX) OUTSIDE", "tracer(0, 256) OUTSIDE", "tracer(0, 0) 0", "tracer(0, 1) 1");
    }

    private void tracerFirstRefusal() {
        check.says("10: of several the first: UNKNOWN: tracer; OUTSIDE: what");
        story().read("1,2").due("tracer(2, 2) UNKNOWN", "tracer(-1, -1) UNKNOWN");
        story().due("tracer(0, 2) UNKNOWN", "tracer(0, -1) UNKNOWN");
    }

    // ---- promise 11

    private void alikeItself() {
        check.says("ALIKE: perhaps itself");
        story().read("5").due("alike(0, 1) 0");
        story().read("5;6;4;7").due("alike(0, 1) 0", "alike(1, 1) 1", "alike(2, 1) 2", "alike(3, 1) 3");
        story().read("0,20;20,0").due("alike(0, 3) 0", "alike(1, 3) 1");
    }

    private void alikeLeast() {
        check.says("ALIKE: the SOURCE of least number that has just as much");
        story().read("9;9;9;9").due("alike(0, 1) 0", "alike(1, 1) 0", "alike(2, 1) 0", "alike(3, 1) 0");
        story().read("8;9;9;9").due("alike(0, 1) 0", "alike(1, 1) 1", "alike(2, 1) 1", "alike(3, 1) 1");
        story().read("8;9;8;9").due("alike(2, 1) 0", "alike(3, 1) 1");
        // One more or less is not just as much, nor is the same in another order.
        story().read("19,20;20,20;20,19").due("alike(1, 3) 1", "alike(2, 3) 2", "alike(1, 1) 1", "alike(1, 2) 0",
            "alike(2, 1) 1", "alike(2, 2) 2");
    }

    private void alikeByUsed() {
        check.says("ALIKE: of each TRACER that is USED");
        // From source 0 the others are otherwise in one tracer each.
        Story story = story().read("5,5,5;6,5,5;5,6,5;5,5,6");
        for (int used = 1; used <= 7; used++) {
            story.due("alike(0, " + used + ") 0");
            for (int source = 1; source <= 3; source++) {
                boolean apart = (used & 1 << source - 1) != 0;
                story.due("alike(" + source + ", " + used + ") " + (apart ? source : 0));
            }
        }
        // Neither AMOUNT nor WEIGHT has a part in it.
        story.due("set(0, 0, 20) 0", "set(1, 1, 5) 1", "alike(1, 1) 1", "alike(2, 1) 0", "alike(2, 2) 2");
        story().read("0,0,0,1;0,0,0,2").due("alike(1, 7) 0", "alike(1, 8) 1", "alike(1, 15) 1");
    }

    private void alikeSource() {
        check.says("11: UNKNOWN: source");
        for (int sources = 1; sources <= 4; sources++) {
            story().read(same(sources, 2)).due("alike(-1, 3) UNKNOWN", "alike(0, 3) 0", "alike(" + (sources - 1) + ", 3) 0",
                "alike(" + sources + ", 3) UNKNOWN", "alike(4, 3) UNKNOWN", "alike(MIN, 3) UNKNOWN",
                "alike(MAX, 3) UNKNOWN", "alike(256, 3) UNKNOWN");
        }
        story().due("alike(0, 1) UNKNOWN");
    }

    private void alikeUsed() {
        check.says("11: OUTSIDE: used (bits of TRACERS, one at least)");
        for (int tracers = 1; tracers <= 4; tracers++) {
            int all = (1 << tracers) - 1;
            story().read(same(2, tracers)).due("alike(1, 0) OUTSIDE", "alike(1, 1) 0", "alike(1, " + all + ") 0",
                "alike(1, " + (all + 1) + ") OUTSIDE", "alike(1, " + (all + 2) + ") OUTSIDE", "alike(1, 16) OUTSIDE",
                "alike(1, 17) OUTSIDE", "alike(1, -1) OUTSIDE", "alike(1, MIN) OUTSIDE", "alike(1, MAX) OUTSIDE",
                "alike(1, " + (1 + (1 << 30)) + ") OUTSIDE", "alike(1, " + (1 + (1 << 31)) + ") OUTSIDE");
        }
    }

    private void alikeFirstRefusal() {
        check.says("11: of several the first: UNKNOWN: source; OUTSIDE: used");
        story().read("1,2").due("alike(1, 0) UNKNOWN", "alike(1, 4) UNKNOWN", "alike(-1, -1) UNKNOWN");
        story().due("alike(0, 0) UNKNOWN", "alike(0, 2) UNKNOWN");
    }
}
