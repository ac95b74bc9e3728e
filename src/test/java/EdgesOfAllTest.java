import java.math.BigInteger;
import java.util.ArrayList;
import java.util.List;

/** Each sentence of the document that names an edge of what is told of all: promises 17 and 18, and the 512 calls. */
public final class EdgesOfAllTest {
    private static final String LONGEST = "20,20,20,20;10,11,12,13;14,15,16,17;18,19,20,10";

    private final Check check = new Check("EdgesOfAllTest");

    public static void main(String[] args) {
        EdgesOfAllTest t = new EdgesOfAllTest();
        t.countWhat();
        t.countSources();
        t.countLetters();
        t.countRead();
        t.countAltered();
        t.countStaysAsItWas();
        t.countEver();
        t.digestWithoutSources();
        t.digestOfOneTracer();
        t.digestByAllButOne();
        t.digestOfEachShape();
        t.digestLetters();
        t.digestWraps();
        t.digestChangesNothing();
        t.mostReadings();
        t.mostAlterings();
        t.mostQuestions();
        t.check.end();
    }

    private Story story() {
        return new Story(check);
    }

    // ---- promise 17

    private void countWhat() {
        check.says("17: OUTSIDE");
        story().due("count(-1) OUTSIDE", "count(0) 0", "count(4) 0", "count(5) OUTSIDE", "count(MIN) OUTSIDE",
            "count(MAX) OUTSIDE", "count(256) OUTSIDE");
        story().read("1,2,3").due("count(-1) OUTSIDE", "count(5) OUTSIDE", "count(0) 1", "count(4) 0");
    }

    private void countSources() {
        check.says("17: 0 SOURCES, 1 TRACERS");
        story().due("count(0) 0 count(1) 0").read("1").due("count(0) 1 count(1) 1").read("1,2,3,4").due("count(0) 1 count(1) 4")
            .read("1;2;3;4").due("count(0) 4 count(1) 1").read("1,2;3,4;5,6").due("count(0) 3 count(1) 2")
            .read(LONGEST).due("count(0) 4 count(1) 4");
    }

    private void countLetters() {
        check.says("17: 2 letters of THE PAGE");
        story().due("count(2) 0", "letter(32) 1", "count(2) 1", "letter(127) OUTSIDE", "count(2) 1", "blank() 1", "count(2) 0");
        story().write(LONGEST.substring(1)).due("count(2) 46", "letter(49) 47", "count(2) 47", "letter(49) FULL",
            "count(2) 47", "sources() STATE", "count(2) 47", "blank() 47", "count(2) 0");
        story().write(LONGEST).due("count(2) 47", "sources() 4", "count(2) 0");
    }

    private void countRead() {
        check.says("17: 3 how often SOURCES were read");
        story().due("count(3) 0", "sources() STATE", "count(3) 0").read("1").due("count(3) 1", "fault() 0", "count(3) 1",
            "sources() STATE", "count(3) 1").write("x").due("sources() STATE", "count(3) 1", "blank() 1")
            .read("1").due("count(3) 2");
    }

    private void countAltered() {
        check.says("17: 4 how often something was altered by set(), alter(), made()");
        story().read("2,4;4,8").due("count(4) 0", "set(0, 0, 5) 0", "count(4) 1", "set(0, 1, 5) 1", "count(4) 2",
            "alter(1, 1, 9) 8", "count(4) 3", "made(1) 1", "count(4) 4", "made(11) STATE", "made(0) OUTSIDE",
            "made(100) OUTSIDE", "set(2, 0, 1) UNKNOWN", "set(0, 2, 1) OUTSIDE", "set(0, 0, 21) OUTSIDE",
            "set(0, 1, 0) OUTSIDE", "alter(2, 0, 1) UNKNOWN", "alter(0, 2, 1) UNKNOWN", "alter(0, 0, 21) OUTSIDE",
            "count(4) 4", "tracer(0, 0) 2", "best(3, 0) 1", "share(0, 3, 0) 1", "press(0, 3, 0) 0", "mixed(0, 3, 0) 2",
            "corner(1, 3, 0) 1", "alike(1, 3) 1", "has(0, 0) 2", "fault() 0", "blank() 0", "count(4) 4");
        story().due("set(0, 0, 0) UNKNOWN", "alter(0, 0, 0) UNKNOWN", "made(1) STATE", "count(4) 0");
    }

    private void countStaysAsItWas() {
        check.says("17: also if it stays as it was");
        story().read("5").due("set(0, 0, 0) 0", "count(4) 1", "set(0, 1, 1) 1", "count(4) 2", "alter(0, 0, 5) 5", "count(4) 3",
            "made(1) 1", "count(4) 4", "made(1) 1", "count(4) 5", "made(9) 9", "count(4) 6");
    }

    private void countEver() {
        check.says("17: ever");
        story().read("5;6").due("set(0, 0, 1) 0", "alter(0, 0, 1) 5", "made(10) 1", "count(3) 1", "count(4) 3")
            .read("7").due("count(3) 2", "count(4) 3", "set(0, 0, 1) 0", "count(4) 4").write("8").due("blank() 1",
            "count(3) 2", "count(4) 4").read("9").due("count(3) 3", "count(4) 4");
    }

    // ---- promise 18

    private static long hash(long... numbers) {
        long h = 1709;
        for (long n : numbers) h = 31 * h + n;
        return h;
    }

    private void digestWithoutSources() {
        check.says("18: if there are SOURCES");
        story().due("digest() " + hash(0, 0, 0, 0, 0)).write("1").due("digest() " + hash('1', 0, 0, 1, 0, 0),
            "sources() 1", "blank() 0", "digest() " + hash(
                1, Story.NONE, Story.NONE, Story.NONE, 0, 1, 1, 1, 1, 1, 1, 1, 0, 1, 0, 1, 1, 1, 1, 0, 1, 0));
    }

    private void digestOfOneTracer() {
        check.says("18: by all but each one (if there is more than one)");
        // Two sources of one tracer: by all tracers alone.
        story().read("7;9").due("set(0, 1, 3) 1", "digest() " + hash(
            7, Story.NONE, Story.NONE, Story.NONE, 9, Story.NONE, Story.NONE, Story.NONE,
            0, 3,
            1, 147, 1, 2, 1, 1, 0, 1, 0, 0, 1, 42, 1, 1, 7, 1,
            2, 1, 0, 1, 1));
    }

    private void digestByAllButOne() {
        check.says("18: by all TRACERS, then by all but each one, in order");
        story().read("10,0;0,10").due("set(0, 0, 3) 0", "set(1, 0, 20) 0").write("1;").due("digest() " + hash(
            10, 0, Story.NONE, Story.NONE, 0, 10, Story.NONE, Story.NONE,
            3, 1, 20, 1,
            2, 109, 1, 2, 0, 1, 70, 1, 0, 1, 1, 0, 1, 1, 0, 1, 10, 1,
            2, 100, 1, 2, 0, 1, 100, 1, 0, 1, 1, 0, 1, 1, 0, 1, 10, 1,
            3, 0, 1, 3, 3, 10, 0, 1, 0, 7, 10, 0, 1, 1, 3, 1, 7, 1,
            '1', ';',
            2, 2, 2, 1, 2));
    }

    private void digestOfEachShape() {
        check.says("18: for each of these numbers, in order");
        int[] apart = {3, 14, 1, 5, 9, 2, 6, 20, 0, 8, 19, 7, 12, 11, 4, 17};
        // Sources that are alike by some tracers, and not by all.
        int[] alike = {5, 5, 6, 5, 5, 6, 6, 5, 5, 5, 5, 6, 6, 5, 6, 5};
        for (int shape = 0; shape < 16; shape++) {
            digestOfShape(1 + shape / 4, 1 + shape % 4, apart);
            digestOfShape(1 + shape / 4, 1 + shape % 4, alike);
        }
    }

    private void digestOfShape(int sources, int tracers, int[] numbers) {
        StringBuilder text = new StringBuilder();
        for (int at = 0; at < sources * tracers; at++) {
            text.append(at == 0 ? "" : at % tracers == 0 ? ";" : ",").append(numbers[at]);
        }
        MudShares x = Check.of(text.toString());
        for (int t = 0; t < tracers; t++) {
            x.set(t, 0, 4 + 3 * t);
            x.set(t, 1, 5 - t);
        }
        Check.write(x, "20,x");
        check.due("digest() of '" + text + "'", x.digest(), digestByCalls(x, "20,x"));
    }

    /** The digest by the words of the document, from what the other calls answer. */
    private static long digestByCalls(MudShares x, String page) {
        List<Long> told = new ArrayList<>();
        int sources = (int) x.count(0);
        int tracers = (int) x.count(1);
        for (int at = 0; at < 4 * sources; at++) told.add(x.has(at / 4, at % 4));
        for (int at = 0; at < 2 * tracers; at++) told.add(x.tracer(at / 2, at % 2));
        int all = (1 << tracers) - 1;
        if (sources > 0) ofUsed(x, all, told);
        for (int t = 0; t < tracers && tracers > 1; t++) ofUsed(x, all - (1 << t), told);
        for (char letter : page.toCharArray()) told.add((long) letter);
        for (int what = 0; what <= 4; what++) told.add(x.count(what));
        return hash(told.stream().mapToLong(n -> n).toArray());
    }

    private static void ofUsed(MudShares x, int used, List<Long> told) {
        for (int what = 0; what <= 3; what++) told.add(x.best(used, what));
        for (int s = 0; s < x.count(0); s++) {
            told.add(x.share(s, used, 0));
            told.add(x.share(s, used, 1));
            told.add(x.press(s, used, 0));
            told.add(x.press(s, used, 1));
            told.add(x.alike(s, used));
        }
        for (int t = 0; t < x.count(1); t++) {
            told.add(x.mixed(t, used, 0));
            told.add(x.mixed(t, used, 1));
        }
    }

    private void digestLetters() {
        check.says("18: each letter of THE PAGE by its code");
        story().write(" ~").due("digest() " + hash(' ', '~', 0, 0, 2, 0, 0));
        story().write("~ ").due("digest() " + hash('~', ' ', 0, 0, 2, 0, 0), "blank() 2", "digest() " + hash(0, 0, 0, 0, 0));
        MudShares x = new MudShares();
        Check.write(x, LONGEST);
        check.due("digest() of a full page", x.digest(), digestByCalls(x, LONGEST));
    }

    private void digestWraps() {
        check.says("18: as longs, wrapping");
        // Five letters and five counts stay within a long; one letter more goes beyond it.
        for (int letters = 0; letters <= 47; letters++) {
            BigInteger h = BigInteger.valueOf(1709);
            for (int i = 0; i < letters; i++) h = next(h, '~');
            for (long n : new long[] {0, 0, letters, 0, 0}) h = next(h, n);
            check.due("it is seen from which letter on it wraps", h.bitLength() < 64 == letters <= 5);
            story().write("~".repeat(letters)).due("digest() " + h.longValue());
        }
    }

    private static BigInteger next(BigInteger h, long n) {
        return h.multiply(BigInteger.valueOf(31)).add(BigInteger.valueOf(n));
    }

    private void digestChangesNothing() {
        check.says("18: digest only tells");
        MudShares x = Check.of("3,1;4,1;5,9");
        x.set(0, 0, 4);
        Check.write(x, "2,");
        long first = x.digest();
        check.due("digest() once more", x.digest(), first);
        long[] due = {3, 2, 2, 1, 1};
        for (int what = 0; what <= 4; what++) check.due("count(" + what + ") behind digest()", x.count(what), due[what]);
        check.due("letter behind digest()", x.letter('7'), 3);
        check.due("digest() behind a letter", x.digest() != first);
        check.due("sources() behind digest()", x.sources(), 1);
        check.due("has() behind digest()", x.has(0, 1), 7);
    }

    // ---- what it is

    private void mostReadings() {
        check.says("at most 512 calls: the last of them holds, SOURCES read by each second one");
        MudShares x = new MudShares();
        for (int n = 1; n <= 254; n++) {
            x.letter('0' + n % 10);
            x.sources();
        }
        check.due("call 509: count(3)", x.count(3), 254);
        check.due("call 510: letter()", x.letter('6'), 1);
        check.due("call 511: sources()", x.sources(), 1);
        check.due("call 512: digest()", x.digest(), hash(
            6, Story.NONE, Story.NONE, Story.NONE, 0, 1, 1, 36, 1, 1, 1, 1, 0, 1, 0, 6, 1, 1, 1, 0, 255, 0));
    }

    private void mostAlterings() {
        check.says("at most 512 calls: the last of them holds, something altered by almost all");
        MudShares x = Check.of("6");
        for (int n = 3; n <= 508; n++) {
            switch (n % 3) {
                case 0 -> x.set(0, n % 2, 1);
                case 1 -> x.alter(0, 0, n % 21);
                default -> x.made(1 + n % 9);
            }
        }
        check.due("call 509: count(4)", x.count(4), 506);
        check.due("call 510: alter(), what call 508 told", x.alter(0, 0, 20), 508 % 21);
        check.due("call 511: made()", x.made(9), 9);
        check.due("call 512: count(4)", x.count(4), 508);
    }

    private void mostQuestions() {
        check.says("at most 512 calls: the last of them holds, all others being refused");
        MudShares x = new MudShares();
        for (int n = 1; n <= 47; n++) x.letter(LONGEST.charAt(n - 1));
        for (int n = 48; n <= 509; n++) {
            if (n % 2 == 0) {
                check.due("call " + n + ": letter() on a full page", x.letter('1'), Story.FULL);
            } else {
                check.due("call " + n + ": made() without sources", x.made(1), Story.STATE);
            }
        }
        check.due("call 510: count(2)", x.count(2), 47);
        check.due("call 511: sources()", x.sources(), 4);
        check.due("call 512: has()", x.has(3, 3), 10);
    }
}
