/** Each sentence of the document that names an edge of what is told: AMOUNT, WEIGHT, PARTS, and promises 6 to 8. */
public final class EdgesOfToldTest {
    private static final String FOUR_BY_FOUR = "1,2,3,4;5,6,7,8;9,10,11,12;13,14,15,16";

    private final Check check = new Check("EdgesOfToldTest");

    public static void main(String[] args) {
        EdgesOfToldTest t = new EdgesOfToldTest();
        t.amount();
        t.weight();
        t.setTracer();
        t.setWhat();
        t.setWhatItWas();
        t.setFirstRefusal();
        t.alterValue();
        t.alterSource();
        t.alterTracer();
        t.alterWhatItHad();
        t.alterFirstRefusal();
        t.madeWithoutSources();
        t.madeRange();
        t.madeFigures();
        t.madeNotWhole();
        t.madeWhole();
        t.madeAllParts();
        t.check.end();
    }

    private Story story() {
        return new Story(check);
    }

    // ---- promise 6

    private void amount() {
        check.says("AMOUNT (0 to 20; 0 at first)");
        story().read("1,2").due("tracer(0, 0) 0", "tracer(1, 0) 0", "set(0, 0, 20) 0", "set(0, 0, 0) 20",
            "set(0, 0, -1) OUTSIDE", "set(0, 0, 21) OUTSIDE", "set(0, 0, MIN) OUTSIDE", "set(0, 0, MAX) OUTSIDE",
            "set(0, 0, 256) OUTSIDE", "set(0, 0, 65536) OUTSIDE", "tracer(0, 0) 0");
        Story story = story().read("1");
        for (int v = 0; v <= 20; v++) {
            story.due("set(0, 0, " + v + ") " + Math.max(0, v - 1), "tracer(0, 0) " + v);
        }
    }

    private void weight() {
        check.says("WEIGHT (1 to 5; 1 at first)");
        story().read("1,2").due("tracer(0, 1) 1", "tracer(1, 1) 1", "set(1, 1, 5) 1", "set(1, 1, 1) 5",
            "set(1, 1, 0) OUTSIDE", "set(1, 1, 6) OUTSIDE", "set(1, 1, -1) OUTSIDE", "set(1, 1, 20) OUTSIDE",
            "set(1, 1, MIN) OUTSIDE", "set(1, 1, MAX) OUTSIDE", "set(1, 1, 257) OUTSIDE", "tracer(1, 1) 1");
        Story story = story().read("1");
        for (int v = 1; v <= 5; v++) {
            story.due("set(0, 1, " + v + ") " + Math.max(1, v - 1), "tracer(0, 1) " + v);
        }
    }

    private void setTracer() {
        check.says("6: UNKNOWN: tracer");
        String text = "9";
        for (int tracers = 1; tracers <= 4; tracers++) {
            int last = tracers - 1;
            story().read(text).due("set(-1, 0, 1) UNKNOWN", "set(" + tracers + ", 0, 1) UNKNOWN",
                "set(-1, 1, 1) UNKNOWN", "set(" + tracers + ", 1, 1) UNKNOWN", "set(MIN, 0, 1) UNKNOWN",
                "set(MAX, 0, 1) UNKNOWN", "set(32, 0, 1) UNKNOWN", "set(0, 0, 6) 0", "set(0, 1, 2) 1",
                "set(" + last + ", 0, 7) " + (last == 0 ? 6 : 0), "set(" + last + ", 1, 3) " + (last == 0 ? 2 : 1));
            text = text + ",9";
        }
        story().due("set(0, 0, 1) UNKNOWN", "set(0, 1, 1) UNKNOWN");
    }

    private void setWhat() {
        check.says("6: AMOUNT (what = 0), WEIGHT (1); OUTSIDE: what");
        story().read("8,9").due("set(1, 0, 3) 0", "set(1, 1, 4) 1", "tracer(1, 0) 3", "tracer(1, 1) 4",
            "tracer(0, 0) 0", "tracer(0, 1) 1", "set(1, -1, 1) OUTSIDE", "set(1, 2, 1) OUTSIDE", "set(1, 3, 1) OUTSIDE",
            "set(1, MIN, 1) OUTSIDE", "set(1, MAX, 1) OUTSIDE", "set(1, 256, 1) OUTSIDE");
    }

    private void setWhatItWas() {
        check.says("6: becomes v: what it was");
        story().read("8,9,10,11").due("set(3, 0, 20) 0", "set(3, 0, 20) 20", "set(3, 0, 1) 20", "set(3, 1, 5) 1",
            "set(3, 1, 5) 5", "set(3, 1, 2) 5", "tracer(3, 0) 1", "tracer(3, 1) 2", "has(0, 3) 11",
            "tracer(2, 0) 0", "tracer(2, 1) 1", "tracer(0, 0) 0", "tracer(0, 1) 1");
        // What is told of shares goes by the new one at once.
        story().read("10;0").due("best(1, 1) 0", "best(1, 0) 2", "set(0, 0, 5) 0", "best(1, 0) 3", "set(0, 0, 20) 5",
            "best(1, 0) 1", "best(1, 1) 100", "set(0, 1, 5) 1", "best(1, 1) 500");
    }

    private void setFirstRefusal() {
        check.says("6: of several the first: UNKNOWN: tracer; OUTSIDE: what, v");
        story().read("8,9").due("set(2, 2, 1) UNKNOWN", "set(2, 0, 21) UNKNOWN", "set(2, 2, 21) UNKNOWN",
            "set(-1, -1, -1) UNKNOWN", "set(1, 2, 21) OUTSIDE", "set(1, -1, -1) OUTSIDE");
        story().due("set(0, 2, 21) UNKNOWN", "set(0, 0, 0) UNKNOWN");
    }

    // ---- promise 7

    private void alterValue() {
        check.says("7: OUTSIDE: v");
        story().read("8,9;10,11").due("alter(1, 1, 20) 11", "alter(1, 1, 21) OUTSIDE", "alter(1, 1, 0) 20",
            "alter(1, 1, -1) OUTSIDE", "alter(1, 1, MIN) OUTSIDE", "alter(1, 1, MAX) OUTSIDE",
            "alter(1, 1, 256) OUTSIDE", "has(1, 1) 0");
        Story story = story().read("0");
        for (int v = 0; v <= 20; v++) {
            story.due("alter(0, 0, " + v + ") " + Math.max(0, v - 1), "has(0, 0) " + v);
        }
    }

    private void alterSource() {
        check.says("7: UNKNOWN: source");
        String text = "9,9";
        for (int sources = 1; sources <= 4; sources++) {
            story().read(text).due("alter(-1, 0, 1) UNKNOWN", "alter(" + sources + ", 0, 1) UNKNOWN",
                "alter(" + sources + ", 1, 1) UNKNOWN", "alter(MIN, 0, 1) UNKNOWN", "alter(MAX, 0, 1) UNKNOWN",
                "alter(32, 0, 1) UNKNOWN", "alter(0, 0, 9) 9", "alter(" + (sources - 1) + ", 1, 6) 9");
            text = text + ";9,9";
        }
        story().due("alter(0, 0, 1) UNKNOWN");
    }

    private void alterTracer() {
        check.says("7: UNKNOWN: tracer");
        String text = "9";
        for (int tracers = 1; tracers <= 4; tracers++) {
            story().read(text + ";" + text).due("alter(0, -1, 1) UNKNOWN", "alter(0, " + tracers + ", 1) UNKNOWN",
                "alter(1, -1, 1) UNKNOWN", "alter(1, " + tracers + ", 1) UNKNOWN", "alter(0, MIN, 1) UNKNOWN",
                "alter(0, MAX, 1) UNKNOWN", "alter(0, 0, 9) 9", "alter(0, " + (tracers - 1) + ", 6) 9",
                "has(0, " + (tracers - 1) + ") 6");
            text = text + ",9";
        }
    }

    private void alterWhatItHad() {
        check.says("7: becomes v: what it had");
        Story story = story().read(FOUR_BY_FOUR);
        for (int at = 0; at < 16; at++) {
            String place = at / 4 + ", " + at % 4;
            story.due("alter(" + place + ", 20) " + (at + 1), "alter(" + place + ", " + at + ") 20");
        }
        for (int at = 0; at < 16; at++) {
            story.due("has(" + at / 4 + ", " + at % 4 + ") " + at);
        }
        // AMOUNTS and WEIGHTS stay, and what is told of shares goes by what it has now at once.
        story().read("10;0").due("set(0, 0, 10) 0", "set(0, 1, 3) 1", "best(1, 0) 1", "alike(1, 1) 1",
            "alter(1, 0, 10) 0", "alike(1, 1) 0", "alter(0, 0, 0) 10", "best(1, 0) 2", "tracer(0, 0) 10",
            "tracer(0, 1) 3");
    }

    private void alterFirstRefusal() {
        check.says("7: of several the first: UNKNOWN: source, tracer; OUTSIDE: v");
        story().read("8,9;10,11").due("alter(2, 0, 21) UNKNOWN", "alter(0, 2, 21) UNKNOWN", "alter(2, 2, 21) UNKNOWN",
            "alter(-1, -1, -1) UNKNOWN", "alter(0, -1, -1) UNKNOWN", "alter(-1, 0, -1) UNKNOWN");
        story().due("alter(0, 0, 21) UNKNOWN");
    }

    // ---- promise 8

    private void madeWithoutSources() {
        check.says("8: STATE: no SOURCES; then OUTSIDE: parts");
        story().due("made(1) STATE", "made(0) STATE", "made(-1) STATE", "made(9999) STATE", "made(10000) STATE",
            "made(MIN) STATE", "made(MAX) STATE");
        story().write("5").due("made(1) STATE");
        story().read("5").write("6").due("made(0) OUTSIDE", "made(1) 1");
    }

    private void madeRange() {
        check.says("8: OUTSIDE: parts (1 to ten to the power of how many SOURCES there are, less 1)");
        String text = "7";
        int power = 10;
        for (int sources = 1; sources <= 4; sources++) {
            story().read(text).due("made(0) OUTSIDE", "made(-1) OUTSIDE", "made(MIN) OUTSIDE", "made(MAX) OUTSIDE",
                "made(" + power + ") OUTSIDE", "made(" + (power + 1) + ") OUTSIDE", "made(" + -power + ") OUTSIDE",
                "tracer(0, 0) 0", "count(4) 0", "made(1) 1", "tracer(0, 0) 7", "set(0, 0, 0) 7",
                "made(" + (power - 1) + ") " + 9 * sources, "tracer(0, 0) 7", "count(4) 3");
            text = text + ";7";
            power *= 10;
        }
        // Of parts that are OUTSIDE it is not looked at whether they come out whole.
        story().read("0;1").due("made(100) OUTSIDE", "made(112) OUTSIDE", "made(-12) OUTSIDE");
    }

    private void madeFigures() {
        check.says("8: of SOURCE 0 its last figure, of SOURCE 1 the one ahead of that, and so on");
        story().read("1,2,3,4;5,6,7,8;9,10,11,12;13,14,15,16").due(
            "made(1) 1", "tracer(0, 0) 1 tracer(1, 0) 2 tracer(2, 0) 3 tracer(3, 0) 4",
            "made(10) 1", "tracer(0, 0) 5 tracer(1, 0) 6 tracer(2, 0) 7 tracer(3, 0) 8",
            "made(100) 1", "tracer(0, 0) 9 tracer(1, 0) 10 tracer(2, 0) 11 tracer(3, 0) 12",
            "made(1000) 1", "tracer(0, 0) 13 tracer(1, 0) 14 tracer(2, 0) 15 tracer(3, 0) 16",
            // (1 * 1 + 3 * 5) by 4.
            "made(31) 4", "tracer(0, 0) 4 tracer(1, 0) 5 tracer(2, 0) 6 tracer(3, 0) 7",
            // (3 * 1 + 1 * 5) by 4.
            "made(13) 4", "tracer(0, 0) 2 tracer(1, 0) 3 tracer(2, 0) 4 tracer(3, 0) 5",
            // (1 * 1 + 1 * 13) by 2: figures of 0 between.
            "made(1001) 2", "tracer(0, 0) 7 tracer(1, 0) 8 tracer(2, 0) 9 tracer(3, 0) 10");
    }

    private void madeNotWhole() {
        check.says("8: STATE: it does not come out whole (nothing is otherwise then)");
        // Of 1 and 1 the first tracer comes out whole and the last does not; then the other way round.
        story().read("2,4,1;4,4,2").due("set(0, 0, 20) 0", "set(1, 0, 19) 0", "set(2, 0, 18) 0", "set(0, 1, 2) 1",
            "made(11) STATE", "tracer(0, 0) 20 tracer(1, 0) 19 tracer(2, 0) 18", "tracer(0, 1) 2", "count(4) 4");
        story().read("1,4,2;2,4,4").due("set(0, 0, 20) 0", "set(1, 0, 19) 0", "set(2, 0, 18) 0",
            "made(11) STATE", "tracer(0, 0) 20 tracer(1, 0) 19 tracer(2, 0) 18", "count(4) 3", "made(22) STATE",
            "made(99) STATE", "made(12) STATE", "made(21) STATE");
        story().read("4,1,2,6;4,2,4,6").due("made(11) STATE", "tracer(0, 0) 0 tracer(1, 0) 0 tracer(2, 0) 0");
        story().read("0;1").due("made(11) STATE", "made(19) STATE", "made(91) STATE", "made(99) STATE", "made(1) 1",
            "made(9) 9", "made(10) 1", "made(90) 9");
        // 36 parts: 36 * 1 comes out whole, one less does not.
        story().read("1;1;1;1").due("made(9999) 36", "tracer(0, 0) 1", "alter(3, 0, 0) 1", "made(9999) STATE",
            "tracer(0, 0) 1", "count(4) 2");
    }

    private void madeWhole() {
        check.says("MADE: AMOUNTS become what SOURCES have by SHARES that are told");
        story().read("0,20;0,20").due("made(11) 2", "tracer(0, 0) 0", "tracer(1, 0) 20", "made(99) 18",
            "tracer(0, 0) 0", "tracer(1, 0) 20");
        story().read("0;20").due("made(11) 2", "tracer(0, 0) 10", "made(91) 10", "tracer(0, 0) 18", "made(19) 10",
            "tracer(0, 0) 2", "made(22) 4", "tracer(0, 0) 10", "made(64) 10", "tracer(0, 0) 12",
            "best(1, 1) 0", "share(1, 1, 0) 3", "share(1, 1, 1) 5");
        // What is told of shares goes by the new ones at once.
        story().read("0;20").due("best(1, 0) 1", "made(10) 1", "best(1, 0) 2", "best(1, 1) 0", "made(11) 2", "best(1, 0) 3",
            "mixed(0, 1, 0) 10", "made(1) 1", "best(1, 0) 1");
        // WEIGHTS have no part in it, and stay; what SOURCES have stays too.
        story().read("3,1;5,9").due("set(0, 1, 5) 1", "set(1, 1, 2) 1", "made(11) 2", "tracer(0, 0) 4", "tracer(1, 0) 5",
            "tracer(0, 1) 5", "tracer(1, 1) 2", "has(0, 0) 3 has(0, 1) 1 has(1, 0) 5 has(1, 1) 9");
    }

    private void madeAllParts() {
        check.says("PARTS (whole numbers from 0 to 9, one of each SOURCE, not all 0): all PARTS together");
        story().read("6;6;6;6").due("made(1) 1", "made(9) 9", "made(10) 1", "made(90) 9", "made(100) 1", "made(900) 9",
            "made(1000) 1", "made(9000) 9", "made(1111) 4", "made(9999) 36", "made(9009) 18", "made(1234) 10",
            "made(0) OUTSIDE", "tracer(0, 0) 6");
    }
}
