/** Each sentence of the document that names an edge of shares: MISFIT, GOOD, BEST, fractions, and promises 12 to 16. */
public final class EdgesOfSharesTest {
    // Between these two the mixture is at s = (10 + a - b) / 20 of source 0, if it has a of tracer 0 and b of tracer 1.
    private static final String TWO_APART = "10,0;0,10";
    private static final String FOUR_APART = "20,0,0,0;0,20,0,0;0,0,20,0;0,0,0,20";

    private final Check check = new Check("EdgesOfSharesTest");

    public static void main(String[] args) {
        EdgesOfSharesTest t = new EdgesOfSharesTest();
        t.terms();
        t.best();
        t.ofOnePart();
        t.corner();
        t.check.end();
    }

    private void terms() {
        misfitByUsed();
        misfitByWeight();
        goodAboveZero();
        goodAlsoBelowZero();
        goodJustOneRow();
        goodAlone();
        bestLeastMisfit();
        bestFewest();
        bestLeastSum();
        bestExactly();
        sharesOfOthers();
        pressEdges();
        corners();
        lowestTerms();
        zeroIsZeroByOne();
        longFractions();
    }

    private Story story() {
        return new Story(check);
    }

    /** A story of sources, the mixture's amounts and the weights. */
    private Story mud(String sources, int[] amounts, int... weights) {
        Story story = story().read(sources);
        for (int t = 0; t < amounts.length; t++) {
            story.due("set(" + t + ", 0, " + amounts[t] + ") 0");
        }
        for (int t = 0; t < weights.length; t++) {
            story.due("set(" + t + ", 1, " + weights[t] + ") 1");
        }
        return story;
    }

    private static int[] row(int... numbers) {
        return numbers;
    }

    /** So many sources, of so many tracers each, that all have the same. */
    private static String same(int sources, int tracers) {
        String one = "9" + ",9".repeat(tracers - 1);
        return one + (";" + one).repeat(sources - 1);
    }

    // ---- terms

    private void misfitByUsed() {
        check.says("MISFIT: of each TRACER that is USED");
        // Off by 7, 4, 1 and 10.
        Story story = mud("3,5,0,20", row(10, 1, 1, 10));
        int[] squares = {49, 16, 1, 100};
        for (int used = 1; used <= 15; used++) {
            int sum = 0;
            for (int t = 0; t < 4; t++) sum += (used >> t & 1) * squares[t];
            story.due("best(" + used + ", 1) " + sum, "best(" + used + ", 2) 1", "corner(1, " + used + ", 1) " + sum);
        }
    }

    private void misfitByWeight() {
        check.says("MISFIT: its WEIGHT times the square");
        mud("3,5", row(10, 1), 5, 2).due("best(1, 1) 245", "best(2, 1) 32", "best(3, 1) 277", "set(0, 1, 1) 5",
            "best(3, 1) 81", "set(1, 1, 5) 2", "best(3, 1) 129");
        // The least and the most that there is.
        mud("20,20,20,20", row(20, 20, 20, 20), 5, 5, 5, 5).due("best(15, 1) 0", "best(15, 2) 1");
        mud("20,20,20,20", row(0, 0, 0, 0), 5, 5, 5, 5).due("best(15, 1) 8000", "best(15, 2) 1");
        mud("0,0,0,0", row(20, 20, 20, 20), 5, 5, 5, 5).due("best(15, 1) 8000", "best(15, 2) 1");
    }

    private void goodAboveZero() {
        check.says("GOOD: all SHARES of that row are above 0");
        // 1/20, 0 and -1/20 of source 0.
        mud(TWO_APART, row(5, 14)).due("corner(3, 3, 0) 1", "best(3, 0) 3", "best(3, 3) 3", "share(0, 3, 0) 1",
            "share(0, 3, 1) 20");
        mud(TWO_APART, row(5, 15)).due("corner(3, 3, 0) 0", "best(3, 0) 2", "best(3, 3) 2", "share(0, 3, 0) 0");
        mud(TWO_APART, row(5, 16)).due("corner(3, 3, 0) 0", "best(3, 0) 2", "best(3, 3) 2", "share(0, 3, 0) 0");
        // The same of source 1.
        mud(TWO_APART, row(14, 5)).due("corner(3, 3, 0) 1", "best(3, 0) 3", "share(1, 3, 0) 1", "share(1, 3, 1) 20");
        mud(TWO_APART, row(15, 5)).due("corner(3, 3, 0) 0", "best(3, 0) 1", "share(1, 3, 0) 0");
        mud(TWO_APART, row(16, 5)).due("corner(3, 3, 0) 0", "best(3, 0) 1", "share(1, 3, 0) 0");
        // Of three sources: one of them at nothing, in each place, while the others share.
        mud("0,0;10,0;0,10", row(5, 5)).due("corner(7, 3, 0) 0", "corner(6, 3, 0) 1", "best(3, 0) 6");
        mud("10,0;0,0;0,10", row(5, 5)).due("corner(7, 3, 0) 0", "corner(5, 3, 0) 1", "best(3, 0) 5");
        mud("10,0;0,10;0,0", row(5, 5)).due("corner(7, 3, 0) 0", "corner(3, 3, 0) 1", "best(3, 0) 3");
        mud("0,0;10,0;0,10", row(5, 4)).due("corner(7, 3, 0) 1", "best(3, 0) 7", "share(0, 3, 0) 1", "share(0, 3, 1) 10");
        // The share of source 2 is one part in more than a million.
        mud("17,0,13,17;18,17,20,20;20,3,2,0;20,2,1,20", row(7, 18, 2, 20), 5, 4, 3, 4).due("corner(14, 15, 0) 1",
            "share(2, 15, 0) 1", "share(2, 15, 1) 1602566");
    }

    private void goodAlsoBelowZero() {
        check.says("GOOD: SHARES that are one together (also some below 0)");
        // At -1/20 the row has less misfit (60 and a half) than source 1 alone (61), which is the best.
        mud(TWO_APART, row(5, 16)).due("corner(3, 3, 0) 0", "corner(3, 3, 1) 121", "corner(3, 3, 2) 2", "best(3, 1) 61",
            "best(3, 2) 1", "corner(2, 3, 1) 61");
        mud(TWO_APART, row(16, 5)).due("corner(3, 3, 0) 0", "corner(3, 3, 1) 121", "corner(3, 3, 2) 2", "best(3, 1) 61",
            "best(3, 2) 1", "corner(1, 3, 1) 61");
        mud("1;2", row(20)).due("corner(3, 1, 0) 0", "corner(3, 1, 1) 0", "corner(3, 1, 2) 1", "best(1, 0) 2",
            "best(1, 1) 324");
        mud("2;1", row(20)).due("corner(3, 1, 0) 0", "corner(3, 1, 1) 0", "corner(3, 1, 2) 1", "best(1, 0) 1");
        mud("20;19", row(0)).due("corner(3, 1, 0) 0", "corner(3, 1, 1) 0", "best(1, 0) 2", "best(1, 1) 361");
        // One of three, in each place, is at -1/10, and the row fits.
        mud("0,0;10,0;0,10", row(6, 5)).due("corner(7, 3, 0) 0", "corner(7, 3, 1) 0", "corner(7, 3, 2) 1", "best(3, 0) 6");
        mud("10,0;0,0;0,10", row(6, 5)).due("corner(7, 3, 0) 0", "corner(7, 3, 1) 0", "corner(7, 3, 2) 1", "best(3, 0) 5");
        mud("10,0;0,10;0,0", row(6, 5)).due("corner(7, 3, 0) 0", "corner(7, 3, 1) 0", "corner(7, 3, 2) 1", "best(3, 0) 3");
    }

    private void goodJustOneRow() {
        check.says("GOOD: just one row has the least MISFIT");
        mud("5;9", row(6)).due("corner(3, 1, 0) 1", "corner(3, 1, 1) 0");
        mud("5;5", row(5)).due("corner(3, 1, 0) 0", "corner(3, 1, 1) NONE", "best(1, 0) 1", "best(1, 3) 2");
        // Alike by the tracers used, not by all.
        mud("5,1;5,2", row(5, 1)).due("corner(3, 1, 0) 0", "corner(3, 1, 1) NONE", "corner(3, 2, 1) 0", "corner(3, 3, 1) 0");
        // Three by one tracer, four by two: more rows than one, however they lie.
        mud("1;5;9", row(5)).due("corner(7, 1, 0) 0", "corner(7, 1, 1) NONE", "corner(7, 1, 2) NONE");
        mud("0,0;20,0;0,20;20,20", row(9, 8)).due("corner(15, 3, 0) 0", "corner(15, 3, 1) NONE", "corner(7, 3, 1) 0");
        // In one line, and next to it.
        mud("0,0;10,10;20,20", row(9, 8)).due("corner(7, 3, 0) 0", "corner(7, 3, 1) NONE", "corner(5, 3, 0) 1");
        mud("0,0;10,10;20,19", row(9, 8)).due("corner(7, 3, 1) 0", "corner(7, 3, 2) 1");
        mud("0,0,0,0;1,2,3,4;2,4,6,8", row(1, 1, 1, 1)).due("corner(7, 15, 1) NONE", "alter(2, 3, 9) 8",
            "corner(7, 15, 0) 0", "corner(7, 8, 1) NONE", "corner(3, 15, 0) 1");
        // Four in one plane, and next to it.
        mud("0,0,0;20,0,0;0,20,0;20,20,0", row(5, 5, 5)).due("corner(15, 7, 0) 0", "corner(15, 7, 1) NONE",
            "corner(7, 7, 0) 1", "alter(3, 2, 1) 0", "corner(15, 7, 1) 0", "corner(15, 3, 1) NONE");
        mud("0,0,0,0;20,0,0,20;0,20,0,20;20,20,0,20", row(5, 5, 5, 5)).due("alter(3, 3, 19) 20", "corner(15, 15, 2) 1",
            "alter(3, 3, 20) 19", "corner(15, 7, 1) NONE");
    }

    private void goodAlone() {
        check.says("GOOD: of one SOURCE alone the one row is the whole of it");
        mud("0,20;20,0;9,9;9,9", row(20, 20), 5, 1).due("corner(1, 3, 0) 1", "corner(2, 3, 0) 1", "corner(4, 3, 0) 1",
            "corner(8, 3, 0) 1", "corner(1, 3, 1) 2000", "corner(2, 3, 1) 400", "corner(4, 3, 1) 726", "corner(4, 3, 2) 1");
    }

    private void bestLeastMisfit() {
        check.says("BEST: the GOOD set with the least MISFIT");
        mud("5;9", row(8)).due("corner(1, 1, 1) 9", "corner(2, 1, 1) 1", "best(1, 0) 3", "best(1, 1) 0");
        mud("5;9", row(10)).due("best(1, 0) 2", "best(1, 1) 1");
        mud("5;9", row(4)).due("best(1, 0) 1", "best(1, 1) 1");
        // More sources go ahead of fewer, and greater sums ahead of lesser ones, if the misfit is less.
        mud("0;20;9;11", row(10)).due("best(1, 0) 3", "best(1, 1) 0");
        mud("3;4;5;6", row(20)).due("best(1, 0) 8", "best(1, 1) 196");
        mud(FOUR_APART, row(5, 5, 5, 5)).due("best(15, 0) 15", "best(15, 1) 0", "corner(7, 15, 1) 100", "corner(7, 15, 2) 3");
    }

    private void bestFewest() {
        check.says("BEST: of like ones that of fewest SOURCES");
        // One source and a pair of a lesser sum both fit.
        mud("0;20;10", row(10)).due("corner(3, 1, 0) 1", "corner(3, 1, 1) 0", "corner(4, 1, 1) 0", "best(1, 0) 4");
        mud("0;20;10", row(9)).due("best(1, 0) 3");
        // A pair (12) and three of a lesser sum (7) both fit.
        mud("0,0;20,0;10,20;10,0", row(10, 10)).due("corner(7, 3, 0) 1", "corner(7, 3, 1) 0", "corner(12, 3, 1) 0",
            "best(3, 0) 12", "best(3, 1) 0", "share(0, 3, 0) 0", "share(2, 3, 0) 1", "share(2, 3, 1) 2");
        // One alone (8) and three of a lesser sum (7) both fit.
        mud("0,0;20,0;10,20;10,10", row(10, 10)).due("corner(7, 3, 0) 1", "corner(7, 3, 1) 0", "best(3, 0) 8");
        // Like ones that do not fit: by tracer 1 all are off by 3.
        mud("0,4;20,4;10,4", row(10, 7)).due("corner(3, 3, 1) 9", "corner(4, 3, 1) 9", "best(3, 0) 4", "best(3, 1) 9");
    }

    private void bestLeastSum() {
        check.says("BEST: of like ones the one of the least sum of 2 to the power of their numbers");
        mud("7;7", row(0)).due("best(1, 0) 1", "best(1, 1) 49", "best(1, 3) 2");
        mud("9;7;7;7", row(0)).due("best(1, 0) 2");
        mud("9;9;7;7", row(0)).due("best(1, 0) 4");
        mud("5;15;5;15", row(10)).due("best(1, 0) 3", "best(1, 3) 8");
        // Of 6 (sources 1 and 2) and 9 (0 and 3), though 9 has the least source.
        mud("0,0;0,20;20,0;20,20", row(10, 10)).due("corner(9, 3, 1) 0", "corner(9, 3, 0) 1", "best(3, 0) 6");
        // Of 3 and 12, of 5 and 10.
        mud("0,0;20,20;0,20;20,0", row(10, 10)).due("corner(12, 3, 0) 1", "best(3, 0) 3");
        mud("0,0;20,0;20,20;0,20", row(10, 10)).due("corner(10, 3, 0) 1", "best(3, 0) 5");
        // Of threes: 7 and 11; 11 and 13; 13 and 14.
        mud("0,0;20,0;20,20;0,20", row(10, 5)).due("corner(11, 3, 1) 0", "corner(11, 3, 0) 1", "best(3, 0) 7");
        mud("0,0;20,0;20,20;0,20", row(5, 10)).due("corner(13, 3, 0) 1", "corner(11, 3, 0) 1", "best(3, 0) 11");
        mud("0,0;20,0;20,20;0,20", row(10, 15)).due("corner(14, 3, 0) 1", "corner(13, 3, 0) 1", "best(3, 0) 13");
        // Like ones that do not fit, off by 1/2 of tracer 1.
        mud("5,1;15,2;5,1;15,2", row(10, 2)).due("best(3, 0) 3", "best(3, 3) 8");
    }

    private void bestExactly() {
        check.says("BEST: like ones are such as have just the same MISFIT");
        // 14 is less than 10 by one in some two million millions.
        mud("17,0,13,17;18,17,20,20;20,3,2,0;20,2,1,20", row(7, 18, 2, 20), 5, 4, 3, 4).due("corner(10, 15, 1) 2434007",
            "corner(10, 15, 2) 2003", "corner(10, 15, 0) 1", "best(15, 0) 14", "best(15, 1) 973703660",
            "best(15, 2) 801283", "best(15, 3) 12");
        // The products across of the misfits of 7 and of 15 do not fit in a long.
        mud("2,18,20,0;19,0,18,19;20,19,1,20;20,0,0,1", row(4, 8, 7, 15), 5, 5, 4, 4).due("corner(7, 15, 1) 8054479400",
            "corner(7, 15, 2) 11442681", "best(15, 0) 15", "best(15, 1) 800904255380", "best(15, 2) 1176519013",
            "best(15, 3) 15");
    }

    private void sharesOfOthers() {
        check.says("SHARES by BEST: those of that row, 0 of other SOURCES");
        mud("0;20;10;20", row(15)).due("best(1, 0) 3", "share(0, 1, 0) 1", "share(0, 1, 1) 4", "share(1, 1, 0) 3",
            "share(1, 1, 1) 4", "share(2, 1, 0) 0", "share(2, 1, 1) 1", "share(3, 1, 0) 0", "share(3, 1, 1) 1");
        // The last set that is looked through is another one than the best.
        mud("10;0;0;0", row(20)).due("best(1, 0) 1", "share(0, 1, 0) 1", "share(0, 1, 1) 1", "share(1, 1, 0) 0",
            "share(2, 1, 0) 0", "share(3, 1, 0) 0");
    }

    private void pressEdges() {
        check.says("PRESS: 0 where there is a SHARE, 0 or more elsewhere");
        // (10 - 0)(0 - 5) + (0 - 10)(10 - b): 0 at b = 15 without a share, 10 at b = 16.
        mud(TWO_APART, row(5, 14)).due("press(0, 3, 0) 0", "press(0, 3, 1) 1", "press(1, 3, 0) 0");
        mud(TWO_APART, row(5, 15)).due("share(0, 3, 0) 0", "press(0, 3, 0) 0", "press(0, 3, 1) 1", "press(1, 3, 0) 0");
        mud(TWO_APART, row(5, 16)).due("press(0, 3, 0) 10", "press(0, 3, 1) 1", "press(1, 3, 0) 0", "press(1, 3, 1) 1");
        mud(TWO_APART, row(5, 16), 1, 5).due("press(0, 3, 0) 250", "press(0, 2, 0) 300", "press(0, 1, 0) 0");
        // Where the mixture is fitted, nothing presses.
        mud("0;20;7;13", row(7)).due("best(1, 0) 4", "press(0, 1, 0) 0", "press(1, 1, 0) 0", "press(2, 1, 0) 0");
        // 5 * (20 - 0)(0 - 0) is 0; the most is 5 * (20 - 10)(10 - 0), four times.
        mud("0;20", row(0), 5).due("press(1, 1, 0) 0");
        mud("10,10,10,10;20,20,20,20", row(0, 0, 0, 0), 5, 5, 5, 5).due("press(1, 15, 0) 2000", "press(1, 15, 1) 1",
            "press(1, 8, 0) 500");
    }

    private void corners() {
        check.says("CORNERS: GOOD sets, by how many there are");
        mud("9", row(3)).due("best(1, 3) 1");
        mud("9;9;9;9", row(3)).due("best(1, 3) 4");
        mud("9;8;7;6", row(20)).due("best(1, 3) 4");
        // 6 is between 5 and 9 alone; then between 5 or 4 and 9 or 10.
        mud("5;9", row(6)).due("best(1, 3) 3");
        mud("5;9;4;10", row(6)).due("best(1, 3) 8");
        mud(FOUR_APART, row(5, 5, 5, 5)).due("best(15, 3) 15", "best(7, 3) 15", "best(3, 3) 11", "best(1, 3) 7");
        // Source 3 fits: beside it the others have no share, without it they share as they like.
        mud(FOUR_APART, row(0, 0, 0, 20)).due("best(15, 3) 8");
    }

    private void lowestTerms() {
        check.says("Fractions are told in lowest terms, what is below being above 0");
        // 1/2 of each: the misfit is 2 * 5 * 5, what is mixed 5.
        story().read(TWO_APART).due("best(3, 1) 50 best(3, 2) 1", "share(0, 3, 0) 1 share(0, 3, 1) 2",
            "mixed(0, 3, 0) 5 mixed(0, 3, 1) 1", "corner(3, 3, 1) 50 corner(3, 3, 2) 1",
            "corner(1, 3, 1) 100 corner(1, 3, 2) 1");
        mud(TWO_APART, row(4, 6)).due("share(0, 3, 0) 2 share(0, 3, 1) 5", "share(1, 3, 0) 3 share(1, 3, 1) 5",
            "mixed(1, 3, 0) 6 mixed(1, 3, 1) 1", "best(3, 1) 0 best(3, 2) 1");
        mud(TWO_APART, row(4, 5)).due("share(0, 3, 0) 9 share(0, 3, 1) 20", "mixed(0, 3, 0) 9 mixed(0, 3, 1) 2",
            "best(3, 1) 1 best(3, 2) 2", "corner(3, 3, 1) 1 corner(3, 3, 2) 2");
        // Shares 5/6 and 1/6 mix 50/3 and 10/3; at source 3 it is 5 * (-50/3)(-10/3) + (-10/3)(-50/3) + 20 * (0 - 5).
        mud(FOUR_APART, row(20, 20, 5, 5), 5).due("share(0, 15, 0) 5 share(0, 15, 1) 6", "press(3, 15, 0) 700",
            "press(3, 15, 1) 3", "mixed(0, 15, 0) 50 mixed(0, 15, 1) 3", "mixed(2, 15, 0) 0 mixed(2, 15, 1) 1");
        // The whole is 1 by 1, and what is mixed then is whole too.
        mud("20,3", row(20, 0)).due("share(0, 3, 0) 1 share(0, 3, 1) 1", "mixed(0, 3, 0) 20 mixed(0, 3, 1) 1",
            "mixed(1, 3, 0) 3 mixed(1, 3, 1) 1", "best(3, 1) 9 best(3, 2) 1");
        // 190/452 and 262/452 of sources 1 and 2 mix 1099/113 and 1256/113; 98596/452 is the misfit.
        story().read("20,20;19,3;3,17").due("share(1, 3, 0) 95 share(1, 3, 1) 226", "share(2, 3, 0) 131 share(2, 3, 1) 226",
            "mixed(0, 3, 0) 1099 mixed(0, 3, 1) 113", "mixed(1, 3, 0) 1256 mixed(1, 3, 1) 113",
            "best(3, 1) 24649 best(3, 2) 113", "press(0, 3, 0) 22451 press(0, 3, 1) 113");
    }

    private void zeroIsZeroByOne() {
        check.says("Fractions: 0 is 0 by 1");
        mud("10,0;0,10;20,20", row(3, 7)).due("best(3, 1) 0 best(3, 2) 1", "share(2, 3, 0) 0 share(2, 3, 1) 1",
            "press(0, 3, 0) 0 press(0, 3, 1) 1", "press(2, 3, 0) 0 press(2, 3, 1) 1",
            "corner(3, 3, 1) 0 corner(3, 3, 2) 1", "corner(7, 3, 1) 0 corner(7, 3, 2) 1");
        story().read("0,5;0,7").due("mixed(0, 3, 0) 0 mixed(0, 3, 1) 1", "mixed(0, 1, 0) 0 mixed(0, 1, 1) 1",
            "best(1, 1) 0 best(1, 2) 1");
    }

    private void longFractions() {
        check.says("Fractions: exactly, also such as no int holds");
        mud("0,8,12,20;1,0,17,1;5,14,2,5;19,20,20,0", row(6, 10, 17, 1), 1, 4, 3, 5).due("best(15, 1) 22791606000",
            "best(15, 2) 2736796463", "share(0, 15, 0) 20280335", "share(0, 15, 1) 2736796463",
            "share(1, 15, 0) 1345416703", "share(2, 15, 0) 278451300", "share(3, 15, 0) 1092648125",
            "mixed(2, 15, 0) 45525313071", "mixed(2, 15, 1) 2736796463", "mixed(3, 15, 0) 3143279903");
        mud("20,1,1,10;2,18,1,15;1,1,19,20;0,20,20,0", row(7, 19, 1, 3), 5, 4, 3, 5).due("press(2, 15, 0) 5235109785",
            "press(2, 15, 1) 6506363", "corner(15, 15, 0) 0", "corner(15, 15, 1) 45114674460",
            "corner(15, 15, 2) 2392611023");
    }

    // ---- promise 12

    private void best() {
        check.says("12: STATE: no SOURCES; then OUTSIDE: used, what");
        story().due("best(1, 0) STATE", "best(0, 0) STATE", "best(1, 4) STATE", "best(0, -1) STATE", "best(MIN, MAX) STATE");
        story().write("5").due("best(1, 0) STATE", "sources() 1", "best(1, 0) 1");
        check.says("12: OUTSIDE: used");
        used("best(", ", 0)", 1);
        check.says("12: OUTSIDE: what");
        mud(TWO_APART, row(4, 5)).due("best(3, -1) OUTSIDE", "best(3, 0) 3", "best(3, 1) 1", "best(3, 2) 2", "best(3, 3) 3",
            "best(3, 4) OUTSIDE", "best(3, MIN) OUTSIDE", "best(3, MAX) OUTSIDE", "best(3, 256) OUTSIDE",
            "best(0, 4) OUTSIDE", "best(4, -1) OUTSIDE");
        check.says("12: its SOURCES, as bits");
        mud(FOUR_APART, row(20, 0, 0, 0)).due("best(15, 0) 1").due("set(0, 0, 0) 20", "set(3, 0, 20) 0", "best(15, 0) 8")
            .due("set(0, 0, 20) 0", "best(15, 0) 9", "best(1, 0) 1", "best(2, 0) 1", "best(9, 0) 9");
    }

    /**
     * That a call takes each set of tracers, and no other number for it; and what it answers if there is one source
     * that has 9 of each tracer.
     */
    private void used(String ahead, String behind, int due) {
        for (int tracers = 1; tracers <= 4; tracers++) {
            int all = (1 << tracers) - 1;
            Story story = story().read(same(1, tracers));
            int[] wrong = {0, all + 1, all + 2, 2 * all + 1, 16, 17, 32, -1, -all, 1 + (1 << 30), 1 + (1 << 31)};
            for (int number : wrong) {
                story.due(ahead + number + behind + " OUTSIDE");
            }
            story.due(ahead + "MIN" + behind + " OUTSIDE", ahead + "MAX" + behind + " OUTSIDE");
            for (int number = 1; number <= all; number++) {
                story.due(ahead + number + behind + " " + due);
            }
        }
    }

    // ---- promises 13 to 15

    private void ofOnePart() {
        share();
        press();
        mixed();
    }

    private void share() {
        check.says("13: UNKNOWN: source");
        sourceEdges("share");
        check.says("13: OUTSIDE: used");
        used("share(0, ", ", 0)", 1);
        check.says("13: part 0 above, 1 below; OUTSIDE: part");
        mud(TWO_APART, row(3, 7)).due("share(0, 3, -1) OUTSIDE", "share(0, 3, 0) 3", "share(0, 3, 1) 10",
            "share(0, 3, 2) OUTSIDE", "share(0, 3, MIN) OUTSIDE", "share(0, 3, MAX) OUTSIDE", "share(1, 3, 256) OUTSIDE");
        check.says("13: of several the first: UNKNOWN: source; OUTSIDE: used, part");
        firstRefusals("share");
    }

    private void press() {
        check.says("14: UNKNOWN: source");
        sourceEdges("press");
        check.says("14: OUTSIDE: used");
        used("press(0, ", ", 0)", 0);
        check.says("14: part 0 above, 1 below; OUTSIDE: part");
        mud(FOUR_APART, row(20, 20, 5, 5), 5).due("press(3, 15, -1) OUTSIDE", "press(3, 15, 0) 700", "press(3, 15, 1) 3",
            "press(3, 15, 2) OUTSIDE", "press(3, 15, MIN) OUTSIDE", "press(3, 15, MAX) OUTSIDE",
            "press(0, 15, 256) OUTSIDE");
        check.says("14: of several the first: UNKNOWN: source; OUTSIDE: used, part");
        firstRefusals("press");
    }

    private void mixed() {
        check.says("15: UNKNOWN: tracer");
        for (int tracers = 1; tracers <= 4; tracers++) {
            story().read(same(2, tracers)).due("mixed(-1, 1, 0) UNKNOWN", "mixed(0, 1, 0) 9",
                "mixed(" + (tracers - 1) + ", 1, 0) 9", "mixed(" + tracers + ", 1, 0) UNKNOWN", "mixed(4, 1, 0) UNKNOWN",
                "mixed(MIN, 1, 0) UNKNOWN", "mixed(MAX, 1, 0) UNKNOWN", "mixed(256, 1, 0) UNKNOWN");
        }
        story().due("mixed(0, 1, 0) UNKNOWN");
        check.says("15: OUTSIDE: used");
        used("mixed(0, ", ", 0)", 9);
        check.says("15: of a TRACER (USED or not)");
        mud("10,0,1;0,10,20", row(3, 20)).due("mixed(0, 1, 0) 3", "mixed(0, 1, 1) 1", "mixed(1, 1, 0) 7", "mixed(1, 1, 1) 1",
            "mixed(2, 1, 0) 143", "mixed(2, 1, 1) 10", "mixed(0, 2, 0) 0", "mixed(1, 2, 0) 10", "mixed(2, 2, 0) 20");
        check.says("15: part 0 above, 1 below; OUTSIDE: part");
        mud("10,0;0,9", row(3, 20)).due("mixed(1, 1, -1) OUTSIDE", "mixed(1, 1, 0) 63", "mixed(1, 1, 1) 10",
            "mixed(1, 1, 2) OUTSIDE", "mixed(1, 1, MIN) OUTSIDE", "mixed(1, 1, MAX) OUTSIDE", "mixed(0, 1, 256) OUTSIDE");
        check.says("15: of several the first: UNKNOWN: tracer; OUTSIDE: used, part");
        firstRefusals("mixed");
    }

    private void sourceEdges(String call) {
        int due = call.equals("share") ? 1 : 0;
        for (int sources = 1; sources <= 4; sources++) {
            story().read(same(sources, 2)).due(call + "(-1, 3, 0) UNKNOWN", call + "(0, 3, 0) " + due,
                call + "(" + (sources - 1) + ", 3, 1) 1", call + "(" + sources + ", 3, 0) UNKNOWN",
                call + "(4, 3, 0) UNKNOWN", call + "(MIN, 3, 0) UNKNOWN", call + "(MAX, 3, 0) UNKNOWN",
                call + "(256, 3, 0) UNKNOWN");
        }
        story().due(call + "(0, 1, 0) UNKNOWN");
    }

    private void firstRefusals(String call) {
        story().read(TWO_APART).due(call + "(2, 0, 0) UNKNOWN", call + "(2, 4, 2) UNKNOWN", call + "(-1, 3, 2) UNKNOWN",
            call + "(-1, -1, -1) UNKNOWN", call + "(0, 0, 2) OUTSIDE", call + "(1, 4, -1) OUTSIDE");
        story().due(call + "(0, 0, 0) UNKNOWN", call + "(0, 1, 2) UNKNOWN");
    }

    // ---- promise 16

    private void corner() {
        check.says("16: STATE: no SOURCES; then OUTSIDE: set, used, what");
        story().due("corner(1, 1, 0) STATE", "corner(0, 1, 0) STATE", "corner(1, 0, 0) STATE", "corner(1, 1, 3) STATE",
            "corner(MIN, MAX, -1) STATE");
        check.says("16: OUTSIDE: set (bits, one at least)");
        cornerSets();
        check.says("16: OUTSIDE: used");
        used("corner(1, ", ", 0)", 1);
        check.says("16: OUTSIDE: what");
        mud(TWO_APART, row(5, 6)).due("corner(3, 3, -1) OUTSIDE", "corner(3, 3, 0) 1", "corner(3, 3, 1) 1",
            "corner(3, 3, 2) 2", "corner(3, 3, 3) OUTSIDE", "corner(3, 3, MIN) OUTSIDE", "corner(3, 3, MAX) OUTSIDE",
            "corner(1, 1, 256) OUTSIDE", "corner(0, 0, 3) OUTSIDE");
        check.says("16: NONE: more than one row has it");
        mud("10,0;0,10;10,0", row(0, 20)).due("corner(5, 3, 0) 0", "corner(5, 3, 1) NONE", "corner(5, 3, 2) NONE",
            "corner(7, 3, 0) 0", "corner(7, 3, 1) NONE", "corner(7, 3, 2) NONE", "corner(3, 3, 1) 50", "corner(3, 3, 2) 1",
            "corner(5, 3, -1) OUTSIDE", "corner(5, 3, 3) OUTSIDE");
    }

    private void cornerSets() {
        for (int sources = 1; sources <= 4; sources++) {
            int all = (1 << sources) - 1;
            Story story = story().read(same(sources, 1));
            int[] wrong = {0, all + 1, all + 2, 2 * all + 1, 16, 17, 32, -1, -all, 1 + (1 << 30), 1 + (1 << 31)};
            for (int number : wrong) {
                story.due("corner(" + number + ", 1, 0) OUTSIDE");
            }
            story.due("corner(MIN, 1, 0) OUTSIDE", "corner(MAX, 1, 0) OUTSIDE");
            for (int set = 1; set <= all; set++) {
                story.due("corner(" + set + ", 1, 0) " + (Integer.bitCount(set) == 1 ? 1 : 0));
            }
        }
    }
}
