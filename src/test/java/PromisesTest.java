/** Of each promise of the document: ordinary inputs, the edges that it names, and wrong inputs. */
public final class PromisesTest {
    private static final long NONE = -1000001L;
    private static final long UNKNOWN = -1000002L;
    private static final long OUTSIDE = -1000003L;
    private static final long STATE = -1000004L;
    private static final long FULL = -1000005L;

    private static final int MIN = Integer.MIN_VALUE;
    private static final int MAX = Integer.MAX_VALUE;

    private static final String LONGEST = "20,20,20,20;10,11,12,13;14,15,16,17;18,19,20,10";

    private final Check check = new Check("PromisesTest");

    public static void main(String[] args) {
        PromisesTest t = new PromisesTest();
        t.newObject();
        t.refusalsWithoutSources();
        t.letter();
        t.blank();
        t.fault();
        t.sources();
        t.sourcesForgets();
        t.set();
        t.alter();
        t.made();
        t.has();
        t.tracer();
        t.alike();
        t.best();
        t.bestOfLikeOnes();
        t.share();
        t.press();
        t.mixed();
        t.corner();
        t.count();
        t.digest();
        t.refusalsChangeNothing();
        t.longFractions();
        t.check.end();
    }

    private void due(String call, long got, long want) {
        check.due(call, got, want);
    }

    // ---- promise 1

    private void newObject() {
        MudShares x = new MudShares();
        for (int what = 0; what <= 4; what++) {
            due("new: count(" + what + ")", x.count(what), 0);
        }
        due("new: fault()", x.fault(), 0);
        due("new: blank()", x.blank(), 0);
        long h = 1709;
        for (int i = 0; i < 5; i++) h = 31 * h;
        due("new: digest()", x.digest(), h);
    }

    private void refusalsWithoutSources() {
        MudShares x = new MudShares();
        due("none: sources()", x.sources(), STATE);
        due("none: set(0, 0, 0)", x.set(0, 0, 0), UNKNOWN);
        due("none: set(0, 9, 99)", x.set(0, 9, 99), UNKNOWN);
        due("none: alter(0, 0, 0)", x.alter(0, 0, 0), UNKNOWN);
        due("none: made(0)", x.made(0), STATE);
        due("none: made(1)", x.made(1), STATE);
        due("none: has(0, 0)", x.has(0, 0), UNKNOWN);
        due("none: has(0, 9)", x.has(0, 9), UNKNOWN);
        due("none: tracer(0, 0)", x.tracer(0, 0), UNKNOWN);
        due("none: alike(0, 0)", x.alike(0, 0), UNKNOWN);
        due("none: best(0, 9)", x.best(0, 9), STATE);
        due("none: share(0, 0, 9)", x.share(0, 0, 9), UNKNOWN);
        due("none: press(0, 0, 9)", x.press(0, 0, 9), UNKNOWN);
        due("none: mixed(0, 0, 9)", x.mixed(0, 0, 9), UNKNOWN);
        due("none: corner(0, 0, 9)", x.corner(0, 0, 9), STATE);
    }

    // ---- promise 2

    private void letter() {
        MudShares x = new MudShares();
        int[] wrong = {31, 127, 0, -1, MIN, MAX, 32 + 65536};
        for (int code : wrong) {
            due("letter(" + code + ")", x.letter(code), OUTSIDE);
        }
        due("letter(32)", x.letter(32), 1);
        due("letter(126)", x.letter(126), 2);
        for (int n = 3; n <= 47; n++) {
            due("letter(65), the one numbered " + n, x.letter(65), n);
        }
        due("letter(65) on a full page", x.letter(65), FULL);
        due("letter(127) on a full page", x.letter(127), OUTSIDE);
        due("count(2) of a full page", x.count(2), 47);
    }

    // ---- promise 3

    private void blank() {
        MudShares x = new MudShares();
        Check.write(x, "1,2");
        due("blank()", x.blank(), 3);
        due("blank() once more", x.blank(), 0);
        due("letter behind blank()", x.letter('7'), 1);
        due("sources() behind blank()", x.sources(), 1);
        due("has() behind blank()", x.has(0, 0), 7);
    }

    // ---- promise 4

    private void faultOf(String text, long want) {
        MudShares x = new MudShares();
        Check.write(x, text);
        due("fault() of '" + text + "'", x.fault(), want);
        due("fault() once more of '" + text + "'", x.fault(), want);
        due("letters behind fault() of '" + text + "'", x.count(2), text.length());
    }

    private void fault() {
        faultOf("", 0);
        faultOf("0", 1);
        faultOf("20", 2);
        faultOf("21", 1);
        faultOf("19", 2);
        faultOf("200", 2);
        faultOf("100", 2);
        faultOf("30", 1);
        faultOf("00", 1);
        faultOf("01", 1);
        faultOf("1,", 2);
        faultOf(",1", 0);
        faultOf(";1", 0);
        faultOf("1,,2", 2);
        faultOf("1,;2", 2);
        faultOf("1;;2", 2);
        faultOf("1;,2", 2);
        faultOf("1;", 2);
        faultOf(" 1", 0);
        faultOf("1 ,2", 1);
        faultOf("1.5", 1);
        faultOf("+1", 0);
        faultOf("-1", 0);
        faultOf("1:2", 1);
        faultOf("1/2", 1);
        faultOf("1,2,3,4", 7);
        faultOf("1,2,3,4,", 7);
        faultOf("1,2;3", 5);
        faultOf("1,2;3;", 5);
        faultOf("1,2;3,4,", 7);
        faultOf("1,2;3,4;5", 9);
        faultOf("1,2;3,4;5;", 9);
        faultOf("1;2,", 3);
        faultOf("1;2;3;4", 7);
        faultOf("1;2;3;4;", 7);
        faultOf(LONGEST, 47);
    }

    // ---- promise 5

    private void sourcesOf(String text, long want) {
        MudShares x = new MudShares();
        Check.write(x, text);
        due("sources() of '" + text + "'", x.sources(), want);
        due("letters behind sources() of '" + text + "'", x.count(2), want == STATE ? text.length() : 0);
        due("count(0) behind sources() of '" + text + "'", x.count(0), want == STATE ? 0 : want);
        due("count(3) behind sources() of '" + text + "'", x.count(3), want == STATE ? 0 : 1);
    }

    private void sources() {
        sourcesOf("", STATE);
        sourcesOf("0", 1);
        sourcesOf("20", 1);
        sourcesOf("21", STATE);
        sourcesOf("1,", STATE);
        sourcesOf("1;", STATE);
        sourcesOf("1,2;3", STATE);
        sourcesOf("1,2;3,", STATE);
        sourcesOf("1,2;3,4", 2);
        sourcesOf("1,2;3,4;5,6", 3);
        sourcesOf("1,2,3,4,5", STATE);
        sourcesOf("1;2;3;4;5", STATE);
        sourcesOf("1 ", STATE);
        sourcesOf(LONGEST, 4);
        MudShares x = Check.of(LONGEST);
        int[] held = {20, 20, 20, 20, 10, 11, 12, 13, 14, 15, 16, 17, 18, 19, 20, 10};
        for (int at = 0; at < held.length; at++) {
            due("has() of the longest text", x.has(at / 4, at % 4), held[at]);
        }
    }

    private void sourcesForgets() {
        MudShares x = Check.of("1,2,3,4;5,6,7,8;9,10,11,12");
        for (int t = 0; t < 4; t++) {
            x.set(t, 0, 10 + t);
            x.set(t, 1, 2 + t);
        }
        Check.write(x, "7,8x");
        due("sources() of a spoilt text", x.sources(), STATE);
        due("a source stays behind a spoilt text", x.has(2, 3), 12);
        due("an amount stays behind a spoilt text", x.tracer(3, 0), 13);
        x.blank();
        Check.write(x, "7,8");
        due("sources() anew", x.sources(), 1);
        due("others are gone", x.has(1, 0), UNKNOWN);
        due("their tracers are gone", x.has(0, 2), NONE);
        due("their tracers are gone", x.tracer(2, 0), UNKNOWN);
        for (int t = 0; t < 2; t++) {
            due("amounts are 0", x.tracer(t, 0), 0);
            due("weights are 1", x.tracer(t, 1), 1);
        }
        Check.write(x, "0,0,0,0;1,1,1,1");
        x.sources();
        due("an amount of before does not come again", x.tracer(3, 0), 0);
        due("a weight of before does not come again", x.tracer(3, 1), 1);
        due("nothing of before in the misfit", x.best(15, 1), 0);
        due("how often read, ever", x.count(3), 3);
    }

    // ---- promise 6

    private void set() {
        MudShares x = Check.of("1,2");
        due("set(1, 0, 20)", x.set(1, 0, 20), 0);
        due("set(1, 0, 0)", x.set(1, 0, 0), 20);
        due("set(1, 0, 5)", x.set(1, 0, 5), 0);
        due("set(1, 1, 5)", x.set(1, 1, 5), 1);
        due("set(1, 1, 1)", x.set(1, 1, 1), 5);
        due("set(1, 1, 3)", x.set(1, 1, 3), 1);
        due("set(2, 0, 0)", x.set(2, 0, 0), UNKNOWN);
        due("set(-1, 0, 0)", x.set(-1, 0, 0), UNKNOWN);
        due("set(2, 7, 77)", x.set(2, 7, 77), UNKNOWN);
        due("set(MIN, 0, 0)", x.set(MIN, 0, 0), UNKNOWN);
        due("set(MAX, 0, 0)", x.set(MAX, 0, 0), UNKNOWN);
        due("set(1, 0, 21)", x.set(1, 0, 21), OUTSIDE);
        due("set(1, 0, -1)", x.set(1, 0, -1), OUTSIDE);
        due("set(1, 1, 6)", x.set(1, 1, 6), OUTSIDE);
        due("set(1, 1, 0)", x.set(1, 1, 0), OUTSIDE);
        due("set(1, 2, 1)", x.set(1, 2, 1), OUTSIDE);
        due("set(1, -1, 1)", x.set(1, -1, 1), OUTSIDE);
        due("set(1, MIN, MAX)", x.set(1, MIN, MAX), OUTSIDE);
        due("the amount that was set", x.tracer(1, 0), 5);
        due("the weight that was set", x.tracer(1, 1), 3);
        due("another's amount", x.tracer(0, 0), 0);
        due("another's weight", x.tracer(0, 1), 1);
    }

    // ---- promise 7

    private void alter() {
        MudShares x = Check.of("1,2;3,4");
        due("alter(1, 0, 20)", x.alter(1, 0, 20), 3);
        due("alter(1, 0, 0)", x.alter(1, 0, 0), 20);
        due("alter(0, 1, 2)", x.alter(0, 1, 2), 2);
        due("alter(1, 0, 9)", x.alter(1, 0, 9), 0);
        due("alter(2, 0, 0)", x.alter(2, 0, 0), UNKNOWN);
        due("alter(-1, 0, 0)", x.alter(-1, 0, 0), UNKNOWN);
        due("alter(0, 2, 0)", x.alter(0, 2, 0), UNKNOWN);
        due("alter(0, -1, 0)", x.alter(0, -1, 0), UNKNOWN);
        due("alter(4, 0, 0), where the mixture is held", x.alter(4, 0, 0), UNKNOWN);
        due("alter(0, 2, 21)", x.alter(0, 2, 21), UNKNOWN);
        due("alter(0, 0, 21)", x.alter(0, 0, 21), OUTSIDE);
        due("alter(0, 0, -1)", x.alter(0, 0, -1), OUTSIDE);
        due("alter(MAX, MIN, 0)", x.alter(MAX, MIN, 0), UNKNOWN);
        long[] held = {1, 2, 9, 4};
        for (int at = 0; at < held.length; at++) {
            due("has() behind alter()", x.has(at / 2, at % 2), held[at]);
        }
        due("count(4) behind alter()", x.count(4), 4);
    }

    // ---- promise 8

    private void made() {
        MudShares x = Check.of("2,0;4,10;8,5");
        due("made(11)", x.made(11), 2);
        due("made(11): tracer 0", x.tracer(0, 0), 3);
        due("made(11): tracer 1", x.tracer(1, 0), 5);
        due("made(110) is 6 and 15 by 2", x.made(110), STATE);
        due("nothing is otherwise then: tracer 0", x.tracer(0, 0), 3);
        due("nothing is otherwise then: tracer 1", x.tracer(1, 0), 5);
        due("nothing is otherwise then: count(4)", x.count(4), 1);
        due("made(100)", x.made(100), 1);
        due("made(100): tracer 0", x.tracer(0, 0), 8);
        due("made(100): tracer 1", x.tracer(1, 0), 5);
        due("made(1), of source 0 the last figure", x.made(1), 1);
        due("made(1): tracer 0", x.tracer(0, 0), 2);
        due("made(900)", x.made(900), 9);
        due("made(203) is 22 and 10 by 5", x.made(203), STATE);
        due("made(220) is 24 and 30 by 4", x.made(220), STATE);
        due("made(102), 12 and 5 by 3", x.made(102), STATE);
        due("made(999), 126 and 135 by 27", x.made(999), STATE);
        due("made(0)", x.made(0), OUTSIDE);
        due("made(-1)", x.made(-1), OUTSIDE);
        due("made(1000)", x.made(1000), OUTSIDE);
        due("made(MIN)", x.made(MIN), OUTSIDE);
        due("made(MAX)", x.made(MAX), OUTSIDE);
        due("weights stay", x.tracer(0, 1), 1);
        MudShares four = Check.of("20;20;20;20");
        due("made(9999)", four.made(9999), 36);
        due("made(9999): the amount", four.tracer(0, 0), 20);
        due("made(9999) fits", four.best(1, 1), 0);
        due("made(10000)", four.made(10000), OUTSIDE);
        due("made(10) of one source", Check.of("5").made(10), OUTSIDE);
        due("made(9) of one source", Check.of("5").made(9), 9);
        due("made(99) of two", Check.of("5;7").made(99), 18);
        due("made(100) of two", Check.of("5;7").made(100), OUTSIDE);
    }

    // ---- promise 9

    private void has() {
        MudShares x = Check.of("1,2,3;4,5,6");
        due("has(1, 0)", x.has(1, 0), 4);
        due("has(0, 2)", x.has(0, 2), 3);
        due("has(1, 2)", x.has(1, 2), 6);
        due("has(1, 3)", x.has(1, 3), NONE);
        due("has(1, 4)", x.has(1, 4), OUTSIDE);
        due("has(1, -1)", x.has(1, -1), OUTSIDE);
        due("has(2, 0)", x.has(2, 0), UNKNOWN);
        due("has(-1, 0)", x.has(-1, 0), UNKNOWN);
        due("has(2, 4)", x.has(2, 4), UNKNOWN);
        due("has(MIN, MIN)", x.has(MIN, MIN), UNKNOWN);
        due("has(0, MAX)", x.has(0, MAX), OUTSIDE);
    }

    // ---- promise 10

    private void tracer() {
        MudShares x = Check.of("1,2,3;4,5,6");
        x.set(2, 0, 17);
        x.set(2, 1, 4);
        due("tracer(2, 0)", x.tracer(2, 0), 17);
        due("tracer(2, 1)", x.tracer(2, 1), 4);
        due("tracer(0, 0)", x.tracer(0, 0), 0);
        due("tracer(0, 1)", x.tracer(0, 1), 1);
        due("tracer(2, 2)", x.tracer(2, 2), OUTSIDE);
        due("tracer(2, -1)", x.tracer(2, -1), OUTSIDE);
        due("tracer(3, 0)", x.tracer(3, 0), UNKNOWN);
        due("tracer(3, 2)", x.tracer(3, 2), UNKNOWN);
        due("tracer(-1, 0)", x.tracer(-1, 0), UNKNOWN);
        due("tracer(MAX, MAX)", x.tracer(MAX, MAX), UNKNOWN);
    }

    // ---- promise 11

    private void alike() {
        MudShares x = Check.of("1,2;1,3;1,2;0,3");
        due("alike(2, 3)", x.alike(2, 3), 0);
        due("alike(2, 1)", x.alike(2, 1), 0);
        due("alike(1, 1)", x.alike(1, 1), 0);
        due("alike(1, 2)", x.alike(1, 2), 1);
        due("alike(1, 3)", x.alike(1, 3), 1);
        due("alike(3, 2)", x.alike(3, 2), 1);
        due("alike(3, 1)", x.alike(3, 1), 3);
        due("alike(0, 3)", x.alike(0, 3), 0);
        due("alike(4, 3)", x.alike(4, 3), UNKNOWN);
        due("alike(-1, 0)", x.alike(-1, 0), UNKNOWN);
        due("alike(0, 0)", x.alike(0, 0), OUTSIDE);
        due("alike(0, 4)", x.alike(0, 4), OUTSIDE);
        due("alike(0, -1)", x.alike(0, -1), OUTSIDE);
        due("alike(0, MIN)", x.alike(0, MIN), OUTSIDE);
    }

    // ---- promise 12

    private void best() {
        MudShares x = Check.of("10,0;0,10");
        x.set(0, 0, 4);
        x.set(1, 0, 5);
        // By s and 1 - s: (10s - 4)^2 + (5 - 10s)^2 is least at s = 9/20, and 1/2 there.
        due("best(3, 0)", x.best(3, 0), 3);
        due("best(3, 1)", x.best(3, 1), 1);
        due("best(3, 2)", x.best(3, 2), 2);
        due("best(3, 3)", x.best(3, 3), 3);
        due("best(1, 1)", x.best(1, 1), 0);
        due("best(1, 2)", x.best(1, 2), 1);
        x.set(0, 0, 0);
        // Now s = 1/4 by both, but by tracer 0 alone source 1 fits without the other, whose share would be 0.
        due("best(1, 0)", x.best(1, 0), 2);
        due("best(1, 3)", x.best(1, 3), 2);
        due("best(3, 0)", x.best(3, 0), 3);
        due("best(0, 0)", x.best(0, 0), OUTSIDE);
        due("best(4, 0)", x.best(4, 0), OUTSIDE);
        due("best(-1, 0)", x.best(-1, 0), OUTSIDE);
        due("best(3, 4)", x.best(3, 4), OUTSIDE);
        due("best(3, -1)", x.best(3, -1), OUTSIDE);
        due("best(MIN, MIN)", x.best(MIN, MIN), OUTSIDE);
        due("best(MAX, 0)", x.best(MAX, 0), OUTSIDE);
        x.set(1, 1, 5);
        // s^2 * 100 + 5 (5 - 10s)^2 is least at s = 5/12.
        due("by weights: share above", x.share(0, 3, 0), 5);
        due("by weights: share below", x.share(0, 3, 1), 12);
    }

    private void bestOfLikeOnes() {
        MudShares x = Check.of("0;20;10;10");
        x.set(0, 0, 10);
        // 0 and 20 together fit too, but of like ones it is that of fewest sources, then that of the least bits.
        due("of like ones the fewest, then the least", x.best(1, 0), 4);
        due("good are four alone and 0 with 1", x.best(1, 3), 5);
        x.set(0, 0, 5);
        // 0 and 20, 0 and 10, 0 and the other 10.
        due("of like pairs the least bits", x.best(1, 0), 3);
        due("share of 0", x.share(0, 1, 0), 3);
        due("share of 0", x.share(0, 1, 1), 4);
        x.alter(0, 0, 10);
        x.alter(1, 0, 10);
        due("all alike: the least alone", x.best(1, 0), 1);
        due("all alike: misfit", x.best(1, 1), 25);
        due("all alike: each alone is good", x.best(1, 3), 4);
        // Six bits: 0b1001 and 0b0110 are of two sources each, like in misfit; the sum of powers of 2 decides.
        MudShares y = Check.of("0,0;0,20;20,0;20,20");
        y.set(0, 0, 10);
        y.set(1, 0, 10);
        due("of 6 and 9 the least", y.best(3, 0), 6);
        due("fewer go ahead of less: 7 has no share of its own", y.corner(7, 3, 0), 0);
        MudShares z = Check.of("0;20;9;11");
        z.set(0, 0, 10);
        due("a pair that fits goes ahead of a source alone that does not", z.best(1, 0), 3);
        z.set(0, 0, 9);
        due("a source alone that fits goes ahead of a pair of less bits", z.best(1, 0), 4);
    }

    // ---- promise 13

    private void share() {
        MudShares x = Check.of("10,0;0,10;20,20");
        x.set(0, 0, 3);
        x.set(1, 0, 7);
        due("share(0, 3, 0)", x.share(0, 3, 0), 3);
        due("share(0, 3, 1)", x.share(0, 3, 1), 10);
        due("share(1, 3, 0)", x.share(1, 3, 0), 7);
        due("share(1, 3, 1)", x.share(1, 3, 1), 10);
        due("no share is 0 by 1", x.share(2, 3, 0), 0);
        due("no share is 0 by 1", x.share(2, 3, 1), 1);
        x.set(0, 0, 10);
        x.set(1, 0, 0);
        due("the whole is 1 by 1", x.share(0, 3, 0), 1);
        due("the whole is 1 by 1", x.share(0, 3, 1), 1);
        due("share(3, 3, 0)", x.share(3, 3, 0), UNKNOWN);
        due("share(-1, 0, 2)", x.share(-1, 0, 2), UNKNOWN);
        due("share(0, 0, 0)", x.share(0, 0, 0), OUTSIDE);
        due("share(0, 4, 0)", x.share(0, 4, 0), OUTSIDE);
        due("share(0, 3, 2)", x.share(0, 3, 2), OUTSIDE);
        due("share(0, 3, -1)", x.share(0, 3, -1), OUTSIDE);
        due("share(MAX, MAX, MAX)", x.share(MAX, MAX, MAX), UNKNOWN);
        due("share(0, MIN, 0)", x.share(0, MIN, 0), OUTSIDE);
    }

    // ---- promise 14

    private void press() {
        MudShares x = Check.of("20,0,0,0;0,20,0,0;0,0,20,0;0,0,0,20");
        for (int t = 0; t < 4; t++) x.set(t, 0, t < 2 ? 20 : 5);
        x.set(0, 1, 5);
        // Shares 5/6 and 1/6 mix 50/3 and 10/3; at source 3 it is
        // 5 * (-50/3)(-10/3) + (-10/3)(-50/3) + 0 + 20 * (-5) = 700/3.
        due("press(3, 15, 0)", x.press(3, 15, 0), 700);
        due("press(3, 15, 1)", x.press(3, 15, 1), 3);
        due("press where there is a share", x.press(0, 15, 0), 0);
        due("press where there is a share", x.press(0, 15, 1), 1);
        // By tracers 2 and 3 the half of each mixes 10 and 10; at source 0 it is (-10) * 5 + (-10) * 5, less than
        // nothing: so a share of source 0 is better, and none presses.
        due("press(0, 12, 0)", x.press(0, 12, 0), 0);
        due("press(1, 12, 0)", x.press(1, 12, 0), 0);
        MudShares y = Check.of("7;9");
        y.set(0, 1, 3);
        // Source 0 alone is 7 off by nothing; at source 1 it is 3 * (9 - 7) * (7 - 0).
        due("press(1, 1, 0)", y.press(1, 1, 0), 42);
        due("press(1, 1, 1)", y.press(1, 1, 1), 1);
        due("press(0, 1, 0)", y.press(0, 1, 0), 0);
        due("press(2, 1, 0)", y.press(2, 1, 0), UNKNOWN);
        due("press(-1, 0, 0)", y.press(-1, 0, 0), UNKNOWN);
        due("press(0, 0, 0)", y.press(0, 0, 0), OUTSIDE);
        due("press(0, 2, 0)", y.press(0, 2, 0), OUTSIDE);
        due("press(0, 1, 2)", y.press(0, 1, 2), OUTSIDE);
        due("press(0, 1, -1)", y.press(0, 1, -1), OUTSIDE);
        due("press(MIN, MIN, MIN)", y.press(MIN, MIN, MIN), UNKNOWN);
    }

    // ---- promise 15

    private void mixed() {
        MudShares x = Check.of("10,0,1;0,10,20");
        x.set(0, 0, 3);
        x.set(1, 0, 20);
        due("mixed(0, 1, 0)", x.mixed(0, 1, 0), 3);
        due("mixed(1, 1, 0), not used", x.mixed(1, 1, 0), 7);
        due("mixed(2, 1, 0), not used", x.mixed(2, 1, 0), 143);
        due("mixed(2, 1, 1), not used", x.mixed(2, 1, 1), 10);
        due("mixed(0, 2, 0)", x.mixed(0, 2, 0), 0);
        due("mixed(0, 2, 1)", x.mixed(0, 2, 1), 1);
        due("mixed(3, 1, 0)", x.mixed(3, 1, 0), UNKNOWN);
        due("mixed(-1, 0, 9)", x.mixed(-1, 0, 9), UNKNOWN);
        due("mixed(0, 0, 0)", x.mixed(0, 0, 0), OUTSIDE);
        due("mixed(0, 8, 0)", x.mixed(0, 8, 0), OUTSIDE);
        due("mixed(0, 1, 2)", x.mixed(0, 1, 2), OUTSIDE);
        due("mixed(0, 1, -1)", x.mixed(0, 1, -1), OUTSIDE);
        due("mixed(MAX, 1, 0)", x.mixed(MAX, 1, 0), UNKNOWN);
    }

    // ---- promise 16

    private void corner() {
        MudShares x = Check.of("10,0;0,10;10,0");
        x.set(1, 0, 20);
        // By s and 1 - s: (10s)^2 + (-10 - 10s)^2 is least at s = -1/2, and 50 there.
        due("corner(3, 3, 0)", x.corner(3, 3, 0), 0);
        due("corner(3, 3, 1)", x.corner(3, 3, 1), 50);
        due("corner(3, 3, 2)", x.corner(3, 3, 2), 1);
        due("corner(2, 3, 0)", x.corner(2, 3, 0), 1);
        due("corner(2, 3, 1)", x.corner(2, 3, 1), 100);
        due("corner(5, 3, 0), two alike", x.corner(5, 3, 0), 0);
        due("corner(5, 3, 1), two alike", x.corner(5, 3, 1), NONE);
        due("corner(5, 3, 2), two alike", x.corner(5, 3, 2), NONE);
        due("corner(7, 3, 1)", x.corner(7, 3, 1), NONE);
        x.set(0, 0, 5);
        x.set(1, 0, 6);
        due("corner(3, 3, 0)", x.corner(3, 3, 0), 1);
        due("corner(3, 3, 1)", x.corner(3, 3, 1), 1);
        due("corner(3, 3, 2)", x.corner(3, 3, 2), 2);
        x.set(0, 0, 10);
        x.set(1, 0, 0);
        due("a share of 0 is not above 0", x.corner(3, 3, 0), 0);
        due("its misfit", x.corner(3, 3, 1), 0);
        due("its misfit", x.corner(3, 3, 2), 1);
        due("corner(0, 3, 0)", x.corner(0, 3, 0), OUTSIDE);
        due("corner(8, 3, 0)", x.corner(8, 3, 0), OUTSIDE);
        due("corner(-1, 3, 0)", x.corner(-1, 3, 0), OUTSIDE);
        due("corner(1, 0, 0)", x.corner(1, 0, 0), OUTSIDE);
        due("corner(1, 4, 0)", x.corner(1, 4, 0), OUTSIDE);
        due("corner(1, 3, 3)", x.corner(1, 3, 3), OUTSIDE);
        due("corner(1, 3, -1)", x.corner(1, 3, -1), OUTSIDE);
        due("corner(MIN, MAX, MIN)", x.corner(MIN, MAX, MIN), OUTSIDE);
        due("more sources than tracers", Check.of("1;5;9").corner(7, 1, 1), NONE);
    }

    // ---- promise 17

    private void count() {
        MudShares x = Check.of("1,2,3;4,5,6");
        Check.write(x, "1;2");
        due("count(0)", x.count(0), 2);
        due("count(1)", x.count(1), 3);
        due("count(2)", x.count(2), 3);
        due("count(3)", x.count(3), 1);
        due("count(4)", x.count(4), 0);
        x.set(0, 0, 0);
        due("also if it stays as it was: set()", x.count(4), 1);
        x.set(0, 1, 1);
        due("also if it stays as it was: set()", x.count(4), 2);
        x.alter(0, 0, 1);
        due("also if it stays as it was: alter()", x.count(4), 3);
        x.made(1);
        x.made(1);
        due("also if it stays as it was: made()", x.count(4), 5);
        x.set(9, 0, 0);
        x.set(0, 0, 21);
        x.alter(0, 0, 21);
        x.alter(9, 0, 0);
        x.made(0);
        x.made(11);
        due("refusals are not counted", x.count(4), 5);
        x.sources();
        due("ever: count(4)", x.count(4), 5);
        due("ever: count(3)", x.count(3), 2);
        x.sources();
        due("a refused reading is not counted", x.count(3), 2);
        due("count(0) anew", x.count(0), 2);
        due("count(1) anew", x.count(1), 1);
        due("count(5)", x.count(5), OUTSIDE);
        due("count(-1)", x.count(-1), OUTSIDE);
        due("count(MIN)", x.count(MIN), OUTSIDE);
        due("count(MAX)", x.count(MAX), OUTSIDE);
    }

    // ---- promise 18

    private static long hash(long... numbers) {
        long h = 1709;
        for (long n : numbers) h = 31 * h + n;
        return h;
    }

    private void digest() {
        MudShares x = Check.of("7");
        // One tracer: by all tracers only, not by all but one.
        due("digest() of one source", x.digest(), hash(
            7, NONE, NONE, NONE,
            0, 1,
            1, 49, 1, 1, 1, 1, 0, 1, 0, 7, 1,
            1, 1, 0, 1, 0));
        MudShares y = Check.of("10,0;0,10");
        y.set(0, 0, 3);
        y.set(1, 0, 20);
        y.letter('1');
        y.letter(';');
        due("digest() of two sources", y.digest(), hash(
            10, 0, NONE, NONE, 0, 10, NONE, NONE,
            3, 1, 20, 1,
            2, 109, 1, 2, 0, 1, 70, 1, 0, 1, 1, 0, 1, 1, 0, 1, 10, 1,
            2, 100, 1, 2, 0, 1, 100, 1, 0, 1, 1, 0, 1, 1, 0, 1, 10, 1,
            3, 0, 1, 3, 3, 10, 0, 1, 0, 7, 10, 0, 1, 1, 3, 1, 7, 1,
            '1', ';',
            2, 2, 2, 1, 2));
        due("digest() once more", y.digest(), y.digest());
        MudShares z = new MudShares();
        z.letter(' ');
        due("digest() of a page alone", z.digest(), hash(' ', 0, 0, 1, 0, 0));
    }

    // ---- refusals

    private void refusalsChangeNothing() {
        MudShares x = Check.of("3,1;4,1;5,9");
        Check.write(x, "1,x");
        x.set(0, 0, 2);
        x.set(1, 1, 5);
        long before = x.digest();
        x.letter(31);
        x.sources();
        x.set(2, 0, 1);
        x.set(0, 2, 1);
        x.set(0, 0, 21);
        x.set(0, 1, 0);
        x.alter(3, 0, 1);
        x.alter(0, 2, 1);
        x.alter(0, 0, -1);
        x.made(0);
        x.made(1000);
        x.made(11);
        x.best(4, 0);
        x.corner(9, 1, 0);
        x.share(0, 3, 2);
        due("digest() behind refusals", x.digest(), before);
        x.best(1, 0);
        x.best(2, 0);
        x.corner(7, 3, 1);
        x.share(0, 1, 0);
        x.press(1, 2, 0);
        x.mixed(0, 2, 1);
        x.alike(2, 3);
        x.fault();
        x.count(1);
        due("digest() behind calls that only tell", x.digest(), before);
    }

    /** Fractions whose products across do not fit in a long are told and set in order all the same. */
    private void longFractions() {
        MudShares x = Check.of("20,0,1,19;0,20,19,2;1,18,20,0;19,1,0,20");
        int[] amounts = {17, 16, 3, 9};
        int[] weights = {5, 3, 4, 5};
        PlainModel m = new PlainModel();
        m.page.append("20,0,1,19;0,20,19,2;1,18,20,0;19,1,0,20");
        m.sources();
        for (int t = 0; t < 4; t++) {
            x.set(t, 0, amounts[t]);
            x.set(t, 1, weights[t]);
            m.set(t, 0, amounts[t]);
            m.set(t, 1, weights[t]);
        }
        for (int used = 1; used <= 15; used++) {
            for (int set = 1; set <= 15; set++) {
                due("corner(" + set + ", " + used + ", 1)", x.corner(set, used, 1), m.corner(set, used, 1));
                due("corner(" + set + ", " + used + ", 2)", x.corner(set, used, 2), m.corner(set, used, 2));
            }
        }
        due("digest() of long fractions", x.digest(), m.digest());
    }
}
