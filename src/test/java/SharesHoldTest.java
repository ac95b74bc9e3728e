import java.math.BigInteger;
import java.util.Arrays;
import java.util.Random;

/** What the document says of all SHARES, MISFITs and PRESSes, held against what the calls answer for many SOURCES. */
public final class SharesHoldTest {
    private static final int MUDS = 600;

    // Shares by so many parts are tried against those of the best set.
    private static final int PARTS = 8;

    private static final int[] EIGHTS = {0, 8, 16};
    private static final int[][] KINDS = {{}, {0, 10, 20}, EIGHTS};

    private final Check check = new Check("SharesHoldTest");
    private final Random random = new Random(1709);
    private MudShares x;
    private int sources;
    private int tracers;
    private int used;
    private final int[][] held = new int[4][4];
    private final int[] amounts = new int[4];
    private final int[] weights = new int[4];

    public static void main(String[] args) {
        SharesHoldTest t = new SharesHoldTest();
        t.hold("SHARES, none below 0, one together", t::sharesAreOne);
        t.hold("what all SOURCES have of a TRACER by SHARES of BEST", t::mixedOfShares);
        t.hold("MISFIT: its WEIGHT times the square, all together", t::misfitOfMixed);
        t.hold("(No SHARES that are one together and none below 0 have less MISFIT.)", t::noneHasLess);
        t.hold("PRESS: WEIGHT times .. times .., all together", t::pressOfMixed);
        t.hold("(PRESS is 0 or more; 0 where there is a SHARE.)", t::pressIsNotBelowZero);
        t.hold("BEST: the GOOD set that comes ahead of all others", t::bestOfGood);
        t.hold("CORNERS: just the sets that corner() calls GOOD", t::cornersAreGood);
        t.check.end();
    }

    private void hold(String sentence, Runnable holds) {
        check.says(sentence);
        random.setSeed(1709);
        for (int n = 0; n < MUDS && !check.isEnough(); n++) {
            next(n);
            holds.run();
        }
    }

    /**
     * Other sources: of all numbers, of few numbers, so that many are alike or in one line, and such as the mixture is
     * made of by so many parts.
     */
    private void next(int n) {
        sources = 1 + random.nextInt(4);
        tracers = 1 + random.nextInt(4);
        int[] kind = KINDS[n % KINDS.length];
        StringBuilder text = new StringBuilder();
        for (int s = 0; s < sources; s++) {
            for (int t = 0; t < tracers; t++) {
                held[s][t] = drawn(kind);
                text.append(t > 0 ? "," : s > 0 ? ";" : "").append(held[s][t]);
            }
        }
        for (int t = 0; t < tracers; t++) {
            amounts[t] = drawn(kind);
            weights[t] = 1 + random.nextInt(5);
        }
        if (kind == EIGHTS) {
            mixAmounts();
        }
        x = Check.of(text.toString());
        for (int t = 0; t < tracers; t++) {
            x.set(t, 0, amounts[t]);
            x.set(t, 1, weights[t]);
        }
        used = 1 + random.nextInt((1 << tracers) - 1);
    }

    private int drawn(int[] kind) {
        return kind.length == 0 ? random.nextInt(21) : kind[random.nextInt(kind.length)];
    }

    private void mixAmounts() {
        Arrays.fill(amounts, 0);
        for (int part = 0; part < PARTS; part++) {
            int source = random.nextInt(sources);
            for (int t = 0; t < tracers; t++) amounts[t] += held[source][t] / PARTS;
        }
    }

    private static Ratio ratio(long above, long below) {
        return Ratio.of(BigInteger.valueOf(above), BigInteger.valueOf(below));
    }

    private Ratio share(int source) {
        return ratio(x.share(source, used, 0), x.share(source, used, 1));
    }

    private Ratio press(int source) {
        return ratio(x.press(source, used, 0), x.press(source, used, 1));
    }

    private Ratio mixed(int tracer) {
        return ratio(x.mixed(tracer, used, 0), x.mixed(tracer, used, 1));
    }

    private static Ratio whole(long n) {
        return Ratio.of(n);
    }

    private boolean isUsed(int tracer) {
        return (used >> tracer & 1) == 1;
    }

    private void sharesAreOne() {
        Ratio sum = Ratio.ZERO;
        for (int s = 0; s < sources; s++) {
            sum = sum.plus(share(s));
            boolean inBest = (x.best(used, 0) >> s & 1) == 1;
            check.due("a share is above 0 in the best set, and 0 elsewhere", share(s).sign(), inBest ? 1 : 0);
        }
        check.due("shares are one together", sum.equals(Ratio.ONE));
    }

    private void mixedOfShares() {
        for (int t = 0; t < tracers; t++) {
            Ratio sum = Ratio.ZERO;
            for (int s = 0; s < sources; s++) sum = sum.plus(share(s).times(whole(held[s][t])));
            check.due("mixed() of tracer " + t, sum.equals(mixed(t)));
        }
    }

    private void misfitOfMixed() {
        Ratio sum = Ratio.ZERO;
        for (int t = 0; t < tracers; t++) {
            Ratio off = mixed(t).minus(whole(amounts[t]));
            if (isUsed(t)) sum = sum.plus(whole(weights[t]).times(off).times(off));
        }
        check.due("the misfit", sum.equals(ratio(x.best(used, 1), x.best(used, 2))));
    }

    private void noneHasLess() {
        Ratio best = ratio(x.best(used, 1), x.best(used, 2));
        for (int code = 0; code < Math.pow(PARTS + 1, sources); code++) {
            int all = 0;
            for (int s = 0, rest = code; s < sources; s++, rest /= PARTS + 1) all += rest % (PARTS + 1);
            if (all != PARTS) continue;
            long squares = 0;
            for (int t = 0; t < tracers; t++) {
                long off = -PARTS * amounts[t];
                for (int s = 0, rest = code; s < sources; s++, rest /= PARTS + 1) off += rest % (PARTS + 1) * held[s][t];
                if (isUsed(t)) squares += weights[t] * off * off;
            }
            check.due("these shares have less misfit", ratio(squares, PARTS * PARTS).minus(best).sign() >= 0);
        }
    }

    private void pressOfMixed() {
        for (int s = 0; s < sources; s++) {
            Ratio sum = Ratio.ZERO;
            for (int t = 0; t < tracers; t++) {
                Ratio from = whole(held[s][t]).minus(mixed(t));
                Ratio off = mixed(t).minus(whole(amounts[t]));
                if (isUsed(t)) sum = sum.plus(whole(weights[t]).times(from).times(off));
            }
            check.due("press() of source " + s, sum.equals(press(s)));
        }
    }

    private void pressIsNotBelowZero() {
        for (int s = 0; s < sources; s++) {
            check.due("press() is not below 0", press(s).sign() >= 0);
            check.due("press() is 0 where there is a share", share(s).sign() == 0 || press(s).sign() == 0);
        }
    }

    private void bestOfGood() {
        int best = (int) x.best(used, 0);
        Ratio least = ratio(x.best(used, 1), x.best(used, 2));
        check.due("the best set is good", x.corner(best, used, 0), 1);
        check.due("the best set's misfit, above", x.corner(best, used, 1), x.best(used, 1));
        check.due("the best set's misfit, below", x.corner(best, used, 2), x.best(used, 2));
        for (int set = 1; set < 1 << sources; set++) {
            if (set == best || x.corner(set, used, 0) != 1) continue;
            int order = ratio(x.corner(set, used, 1), x.corner(set, used, 2)).minus(least).sign();
            if (order == 0) order = Integer.bitCount(set) - Integer.bitCount(best);
            if (order == 0) order = set - best;
            check.due("set " + set + " comes behind the best one, " + best, order > 0);
        }
    }

    private void cornersAreGood() {
        int good = 0;
        for (int set = 1; set < 1 << sources; set++) good += x.corner(set, used, 0);
        check.due("best(.., 3)", x.best(used, 3), good);
    }
}
