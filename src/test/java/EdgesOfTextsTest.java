/** Each sentence of the document that names an edge of texts: what SOURCES are, and promises 1 to 5. */
public final class EdgesOfTextsTest {
    private static final String FIGURES = "0123456789";

    // Four sources of four tracers with two figures each: no text of sources is longer, and the page takes no more.
    private static final String LONGEST = "20,20,20,20;10,11,12,13;14,15,16,17;18,19,20,10";

    private final Check check = new Check("EdgesOfTextsTest");

    public static void main(String[] args) {
        EdgesOfTextsTest t = new EdgesOfTextsTest();
        t.howManySources();
        t.howManyTracers();
        t.asManyTracersAsTheFirst();
        t.howMuch();
        t.inFigures();
        t.withoutZeroAhead();
        t.signsBetween();
        t.numberedFromZero();
        t.newObject();
        t.objectsApart();
        t.letterCodes();
        t.letterFull();
        t.letterBehind();
        t.blank();
        t.faultAtEachLetter();
        t.faultIsTheFirst();
        t.faultOfNone();
        t.sourcesHowMany();
        t.sourcesOthersGone();
        t.sourcesPageEmpty();
        t.sourcesRefused();
        t.check.end();
    }

    private Story story() {
        return new Story(check);
    }

    /** A text that is sources, so many. */
    private void some(String text, int sources, int tracers) {
        story().write(text).due("fault() " + text.length(), "sources() " + sources,
            "count(0) " + sources, "count(1) " + tracers, "count(2) 0");
    }

    /** A text that is none, with its fault (its length, if sources begin so). */
    private void none(String text, int fault) {
        story().write(text).due("fault() " + fault, "sources() STATE", "count(0) 0", "count(2) " + text.length());
    }

    // ---- what sources are

    private void howManySources() {
        check.says("SOURCES are a text: one to four");
        none("", 0);
        some("1", 1, 1);
        some("1;2", 2, 1);
        some("1;2;3", 3, 1);
        some("1;2;3;4", 4, 1);
        none("1;2;3;4;", 7);
        none("1;2;3;4;5", 7);
        some("1,2;3,4;5,6;7,8", 4, 2);
        none("1,2;3,4;5,6;7,8;9,10", 15);
        some(LONGEST, 4, 4);
        none("1,2,3,4;5,6,7,8;9,0,1,2;3,4,5,6;7,8,9,0", 31);
    }

    private void howManyTracers() {
        check.says("TRACERS (one to four)");
        some("7", 1, 1);
        some("7,8", 1, 2);
        some("7,8,9", 1, 3);
        some("7,8,9,10", 1, 4);
        none("7,8,9,10,", 8);
        none("7,8,9,10,11", 8);
        some("1,2,3;4,5,6", 2, 3);
        some("1,2,3,4;5,6,7,8", 2, 4);
        none("1,2,3,4;5,6,7,8,9", 15);
        none("1,2,3,4,5;1,2,3,4,5", 7);
    }

    private void asManyTracersAsTheFirst() {
        check.says("of each SOURCE as many TRACERS as of the first one");
        none("1,2;3", 5);
        none("1,2;3;4,5", 5);
        none("1,2;3,4,", 7);
        none("1,2;3,4,5", 7);
        none("1;2,", 3);
        none("1;2,3", 3);
        none("1;2;3,4", 5);
        none("1;2;3;4,5", 7);
        none("1,2;3,4;5", 9);
        none("1,2;3,4;5;6,7", 9);
        none("1,2;3,4;5,6,7", 11);
        none("1,2;3,4;5,6;7", 13);
        none("1,2;3,4;5,6;7,8,9", 15);
        none("1,2,3;4,5", 9);
        none("1,2,3;4,5;6,7,8", 9);
        none("1,2,3;4,5,6,7", 11);
        none("1,2,3,4;5,6,7", 13);
        none("1,2,3,4;5,6,7;8,9,0,1", 13);
        some("1,2,3;4,5,6;7,8,9", 3, 3);
    }

    private void howMuch() {
        check.says("how much it has, 0 to 20");
        for (int n = 0; n < 210; n++) {
            String text = String.valueOf(n);
            if (n <= 20) {
                story().write(text).due("fault() " + text.length(), "sources() 1", "has(0, 0) " + n);
                story().write("3," + text).due("sources() 1", "has(0, 1) " + n);
                story().write("3;" + text + ";4").due("sources() 3", "has(1, 0) " + n);
            } else {
                // The last figure alone is too many: what is ahead of it, 2 to 20, may stand.
                none(text, text.length() - 1);
                none("3," + text, text.length() + 1);
            }
        }
        none("1,-1", 2);
        none("210", 1);
        none("256", 1);
        none("4294967297", 1);
    }

    private void inFigures() {
        check.says("in figures");
        none("+1", 0);
        none("-1", 0);
        none("-0", 0);
        none(" 1", 0);
        none("1 ", 1);
        none("1, 2", 2);
        none("1.0", 1);
        none("1e1", 1);
        none("0x1", 1);
        none("a", 0);
        none("/", 0);
        none(":", 0);
        none("1/", 1);
        none("1:", 1);
    }

    private void withoutZeroAhead() {
        check.says("without a 0 ahead");
        some("0", 1, 1);
        none("00", 1);
        none("01", 1);
        none("09", 1);
        none("010", 1);
        none("020", 1);
        none("1,00", 3);
        none("1;02", 3);
        some("10", 1, 1);
        some("20", 1, 1);
        some("0,0;0,0", 2, 2);
    }

    private void signsBetween() {
        check.says("with ; and , between");
        none(";", 0);
        none(",", 0);
        none(";1", 0);
        none(",1", 0);
        none("1;", 2);
        none("1,", 2);
        none("1;;2", 2);
        none("1,,2", 2);
        none("1;,2", 2);
        none("1,;2", 2);
        none("1,2;", 4);
        none("1,2;,3", 4);
        none("1,2;3,;", 6);
        none("1,2;3,", 6);
    }

    private void numberedFromZero() {
        check.says("numbered from 0");
        story().read("11,12,13;14,15,16").due(
            "has(0, 0) 11 has(0, 1) 12 has(0, 2) 13",
            "has(1, 0) 14 has(1, 1) 15 has(1, 2) 16",
            "has(-1, 0) UNKNOWN", "has(2, 0) UNKNOWN");
    }

    // ---- promise 1

    private void newObject() {
        check.says("1: No SOURCES");
        story().due("count(0) 0 count(1) 0 count(2) 0 count(3) 0 count(4) 0", "fault() 0", "blank() 0",
            "has(0, 0) UNKNOWN", "tracer(0, 0) UNKNOWN", "alike(0, 1) UNKNOWN", "set(0, 0, 1) UNKNOWN",
            "alter(0, 0, 1) UNKNOWN", "made(1) STATE", "best(1, 0) STATE", "share(0, 1, 0) UNKNOWN",
            "press(0, 1, 0) UNKNOWN", "mixed(0, 1, 0) UNKNOWN", "corner(1, 1, 0) STATE", "sources() STATE",
            "digest() " + 1709L * 31 * 31 * 31 * 31 * 31);
    }

    private void objectsApart() {
        check.says("1: a new object, whatever others were told");
        MudShares other = Check.of("1,2;3,4");
        other.set(0, 0, 5);
        Check.write(other, "9,");
        long before = other.digest();
        story().due("count(0) 0 count(1) 0 count(2) 0 count(3) 0 count(4) 0");
        story().read("7").due("set(0, 0, 6) 0", "set(0, 1, 3) 1", "alter(0, 0, 8) 7");
        check.due("another object stays as it was", other.digest(), before);
    }

    // ---- promise 2

    private void letterCodes() {
        check.says("2: OUTSIDE: code (32 to 126)");
        story().due("letter(31) OUTSIDE", "letter(32) 1", "letter(126) 2", "letter(127) OUTSIDE", "count(2) 2");
        for (int code = -300; code <= 700; code++) {
            story().due("letter(" + code + ") " + (code >= 32 && code <= 126 ? "1" : "OUTSIDE"));
        }
        for (int turn : new int[] {1 << 8, 1 << 16, 1 << 31}) {
            story().due("letter(" + (49 + turn) + ") OUTSIDE", "letter(" + (49 - turn) + ") OUTSIDE");
        }
        story().due("letter(MIN) OUTSIDE", "letter(MAX) OUTSIDE");
    }

    private void letterFull() {
        check.says("2: FULL: there are 47");
        story().write(LONGEST.substring(0, 45)).due("letter(49) 46", "letter(48) 47", "letter(49) FULL",
            "letter(32) FULL", "letter(126) FULL", "count(2) 47",
            "letter(31) OUTSIDE", "letter(127) OUTSIDE", "letter(MIN) OUTSIDE", "letter(MAX) OUTSIDE",
            "sources() 4", "has(3, 3) 10", "letter(49) 1");
        story().write(LONGEST).due("letter(49) FULL", "blank() 47", "letter(49) 1");
        story().write("x".repeat(47)).due("letter(120) FULL", "sources() STATE", "letter(120) FULL", "blank() 47");
    }

    private void letterBehind() {
        check.says("2: behind THE PAGE: how many THE PAGE has");
        Story story = story();
        for (int n = 1; n <= 47; n++) {
            story.due("letter(" + (int) LONGEST.charAt(n - 1) + ") " + n, "count(2) " + n);
        }
        story().write("12").due("sources() 1", "has(0, 0) 12");
        story().write("1,2;3,4").due("sources() 2", "has(0, 0) 1 has(0, 1) 2 has(1, 0) 3 has(1, 1) 4");
    }

    // ---- promise 3

    private void blank() {
        check.says("3: THE PAGE is empty: how many letters it had");
        story().due("blank() 0", "blank() 0", "letter(49) 1", "blank() 1", "count(2) 0", "blank() 0");
        story().write("x".repeat(46)).due("blank() 46", "count(2) 0");
        story().write("x".repeat(47)).due("blank() 47", "count(2) 0", "fault() 0", "sources() STATE")
            .write(LONGEST).due("count(2) 47", "sources() 4");
        story().write("9,8").due("blank() 3").write("7").due("fault() 1", "sources() 1", "has(0, 0) 7", "has(0, 1) NONE");
        story().read("1,2").due("set(0, 0, 4) 0", "set(1, 1, 5) 1").write("3;").due("blank() 2",
            "count(0) 1 count(1) 2 count(3) 1 count(4) 2", "tracer(0, 0) 4", "tracer(1, 1) 5", "has(0, 1) 2");
    }

    // ---- promise 4

    /** Of all letters only these go on behind a beginning. */
    private void goesOn(String beginning, String letters) {
        for (char c = 32; c <= 126; c++) {
            int due = beginning.length() + (letters.indexOf(c) >= 0 ? 1 : 0);
            story().write(beginning + c).due("fault() " + due);
        }
    }

    private void faultAtEachLetter() {
        check.says("4: with which, and those ahead of it, no SOURCES begin");
        String between = ",;";
        goesOn("", FIGURES);
        goesOn("0", between);
        goesOn("1", FIGURES + between);
        goesOn("2", "0" + between);
        for (char figure = '3'; figure <= '9'; figure++) {
            goesOn(String.valueOf(figure), between);
        }
        for (int n = 10; n <= 20; n++) {
            goesOn(String.valueOf(n), between);
        }
        goesOn("1,", FIGURES);
        goesOn("1,0", between);
        goesOn("1;", FIGURES);
        goesOn("1,2,3", between);
        goesOn("1,2,3,", FIGURES);
        goesOn("1,2,3,4", ";");
        goesOn("1,2,3,1", FIGURES + ";");
        goesOn("1,2,3,2", "0;");
        goesOn("1;3", ";");
        goesOn("1;1", FIGURES + ";");
        goesOn("1,2;", FIGURES);
        goesOn("1,2;3", ",");
        goesOn("1,2;1", FIGURES + ",");
        goesOn("1,2;20", ",");
        goesOn("1,2;3,", FIGURES);
        goesOn("1,2;3,4", ";");
        goesOn("1;2;3;", FIGURES);
        goesOn("1;2;3;4", "");
        goesOn("1;2;3;1", FIGURES);
        goesOn("1;2;3;2", "0");
        goesOn("1,2;3,4;5,6;7", ",");
        goesOn("1,2;3,4;5,6;7,8", "");
        goesOn("1,2,3,4;5,6,7,8;9,0,1,2;3,4,5", ",");
        goesOn("1,2,3,4;5,6,7,8;9,0,1,2;3,4,5,6", "");
    }

    private void faultIsTheFirst() {
        check.says("4: the place (from 0) of the first letter");
        story().write("x1").due("fault() 0");
        story().write("x,x;x").due("fault() 0");
        story().write("1x,x").due("fault() 1");
        story().write("1,2;3;4,5;6").due("fault() 5");
        story().write("21,1").due("fault() 1");
        story().write("1,,2,,3").due("fault() 2");
        story().write("x" + LONGEST.substring(1)).due("count(2) 47", "fault() 0", "sources() STATE");
        story().write(LONGEST.substring(0, 46) + "x").due("count(2) 47", "fault() 46", "sources() STATE");
        story().write(LONGEST.substring(0, 45) + "21").due("count(2) 47", "fault() 46", "sources() STATE");
    }

    private void faultOfNone() {
        check.says("4: how many letters it has, if there is none");
        story().due("fault() 0", "letter(49) 1", "fault() 1", "letter(44) 2", "fault() 2", "letter(50) 3", "fault() 3",
            "fault() 3", "count(2) 3", "sources() 1", "fault() 0");
        for (int length = 0; length <= 47; length++) {
            story().write(LONGEST.substring(0, length)).due("fault() " + length, "count(2) " + length);
        }
    }

    // ---- promise 5

    private void sourcesHowMany() {
        check.says("5: THE PAGE is read as SOURCES: how many");
        story().write("5").due("sources() 1", "count(0) 1", "count(3) 1")
            .write("5,6;7,8").due("sources() 2", "count(0) 2", "count(3) 2")
            .write("5;6;7").due("sources() 3", "count(0) 3", "count(3) 3")
            .write(LONGEST).due("sources() 4", "count(0) 4", "count(3) 4", "has(3, 2) 20", "has(3, 3) 10");
    }

    private void sourcesOthersGone() {
        check.says("5: others are gone; AMOUNTS are 0, WEIGHTS 1");
        Story story = story().read("1,2,3,4;5,6,7,8;9,10,11,12;13,14,15,16");
        for (int t = 0; t < 4; t++) {
            story.due("set(" + t + ", 0, 20) 0", "set(" + t + ", 1, 5) 1");
        }
        story.read("7").due("has(0, 0) 7", "has(0, 1) NONE has(0, 2) NONE has(0, 3) NONE", "has(1, 0) UNKNOWN",
            "tracer(0, 0) 0", "tracer(0, 1) 1", "tracer(1, 0) UNKNOWN", "best(1, 1) 49", "best(2, 0) OUTSIDE",
            "corner(2, 1, 0) OUTSIDE", "made(10) OUTSIDE");
        story.read("0,0,0,1;0,0,0,2;0,0,0,3;0,0,0,4");
        for (int t = 0; t < 4; t++) {
            story.due("tracer(" + t + ", 0) 0", "tracer(" + t + ", 1) 1");
        }
        story.due("best(15, 0) 1", "best(15, 1) 1");
        story().read("5,6").due("set(0, 0, 5) 0", "set(1, 1, 2) 1", "alter(0, 0, 9) 5")
            .read("5,6").due("tracer(0, 0) 0", "tracer(1, 1) 1", "has(0, 0) 5");
        story().read("5;4").due("best(1, 0) 2", "best(1, 1) 16", "alike(1, 1) 1").read("6;6").due("best(1, 0) 1", "best(1, 1) 36",
            "alike(1, 1) 0");
        // A tracer that is gone does not count for what comes out whole, nor does one of a text that was refused.
        story().read("4,1;6,2").due("made(11) STATE").read("4;6").due("made(11) 2", "tracer(0, 0) 5");
        story().read("1,1,1,1;1,1,1,1;1,1,1,1;1,1,1,2").due("made(1100) STATE").read("4;4;4;6").due("made(1100) 2",
            "tracer(0, 0) 5");
        story().write("4,1;6,2;").due("sources() STATE", "blank() 8").read("4;6").due("made(11) 2");
    }

    private void sourcesPageEmpty() {
        check.says("5: THE PAGE is empty then");
        story().read("1,2").due("count(2) 0", "fault() 0", "blank() 0", "sources() STATE", "letter(51) 1", "sources() 1",
            "has(0, 0) 3");
        story().read(LONGEST).due("count(2) 0").write(LONGEST).due("count(2) 47");
    }

    private void sourcesRefused() {
        check.says("5: STATE: it is none");
        story().due("sources() STATE", "count(3) 0");
        story().write("1,").due("fault() 2", "sources() STATE", "count(2) 2", "letter(50) 3", "sources() 1", "has(0, 1) 2");
        story().write("1,2;3").due("fault() 5", "sources() STATE").write(",4").due("sources() 2", "has(1, 1) 4");
        story().write("1;").due("sources() STATE", "letter(57) 3", "sources() 2", "has(1, 0) 9");
        story().write("2").write("1").due("sources() STATE", "count(0) 0");
        story().read("3,1;4,1").due("set(0, 0, 5) 0", "set(1, 1, 4) 1", "alter(1, 1, 6) 1").write("9x").due(
            "sources() STATE", "count(0) 2 count(1) 2 count(2) 2 count(3) 1 count(4) 3",
            "has(1, 0) 4", "has(1, 1) 6", "tracer(0, 0) 5", "tracer(1, 1) 4", "fault() 1");
    }
}
