/**
 * Where mud comes from: by which shares some sources come as near to a mixture as can be, exactly.
 * The document ../shared/DOC.md says what each call does; its words in capitals are used here in small letters.
 */
public final class MudShares {
    public static final long NONE = -1000001L, UNKNOWN = -1000002L, OUTSIDE = -1000003L, STATE = -1000004L, FULL = -1000005L;

    private static final int MOST_SOURCES = 4;
    private static final int MOST_TRACERS = 4;
    private static final int MOST_HELD = 20;
    private static final int MOST_WEIGHT = 5;
    private static final int MOST_LETTERS = 47;
    private static final int FIRST_CODE = 32;
    private static final int LAST_CODE = 126;

    // The mixture is held as one more row behind the sources: it too has so much of each tracer.
    private static final int MIXTURE = MOST_SOURCES;
    private static final int ROWS = MOST_SOURCES + 1;

    // A set of four sources has three beside its base; smaller sets are filled up to that.
    private static final int OTHERS = MOST_SOURCES - 1;

    // Euclid's steps on two longs stay below 100.
    private static final int EUCLID_STEPS = 200;

    private final Page page;
    private final Reader reader;
    private final Mud mud;
    private final Nearest nearest;
    private final Fraction told;
    private long timesRead;
    private long timesAltered;

    public MudShares() {
        page = new Page();
        reader = new Reader();
        mud = new Mud();
        nearest = new Nearest();
        told = new Fraction();
    }

    // ---- texts

    public long letter(int code) {
        if (code < FIRST_CODE || code > LAST_CODE) {
            return OUTSIDE;
        }
        if (page.isFull()) {
            return FULL;
        }
        page.append(code);
        return page.length;
    }

    public long blank() {
        long had = page.length;
        page.empty();
        return had;
    }

    public long fault() {
        return reader.read(page);
    }

    public long sources() {
        if (reader.read(page) < page.length || !reader.finish()) {
            return STATE;
        }
        mud.become(reader);
        page.empty();
        timesRead++;
        return mud.sourceCount;
    }

    // ---- what is told

    public long set(int tracer, int what, int v) {
        if (!mud.isTracer(tracer)) {
            return UNKNOWN;
        }
        if (what == 0) {
            return isHeld(v) ? putHeld(MIXTURE, tracer, v) : OUTSIDE;
        }
        if (what == 1 && v >= 1 && v <= MOST_WEIGHT) {
            long was = mud.weightOf(tracer);
            mud.putWeight(tracer, v);
            timesAltered++;
            return was;
        }
        return OUTSIDE;
    }

    public long alter(int source, int tracer, int v) {
        if (!mud.isSource(source) || !mud.isTracer(tracer)) {
            return UNKNOWN;
        }
        return isHeld(v) ? putHeld(source, tracer, v) : OUTSIDE;
    }

    public long made(int parts) {
        if (mud.sourceCount == 0) {
            return STATE;
        }
        if (parts < 1 || parts >= powerOfTen(mud.sourceCount)) {
            return OUTSIDE;
        }
        int all = figureSum(parts);
        for (int tracer = 0; tracer < MOST_TRACERS; tracer++) {
            if (!isMultiple(mud.heldByParts(tracer, parts), all)) {
                return STATE;
            }
        }
        for (int tracer = 0; tracer < MOST_TRACERS; tracer++) {
            mud.putHeld(MIXTURE, tracer, quotient(mud.heldByParts(tracer, parts), all));
        }
        timesAltered++;
        return all;
    }

    // ---- sources

    public long has(int source, int what) {
        if (!mud.isSource(source)) {
            return UNKNOWN;
        }
        if (what < 0 || what >= MOST_TRACERS) {
            return OUTSIDE;
        }
        return mud.isTracer(what) ? mud.heldOf(source, what) : NONE;
    }

    public long tracer(int tracer, int what) {
        if (!mud.isTracer(tracer)) {
            return UNKNOWN;
        }
        switch (what) {
            case 0: return mud.heldOf(MIXTURE, tracer);
            case 1: return mud.weightOf(tracer);
            default: return OUTSIDE;
        }
    }

    public long alike(int source, int used) {
        if (!mud.isSource(source)) {
            return UNKNOWN;
        }
        if (!mud.isUsed(used)) {
            return OUTSIDE;
        }
        return mud.firstAlike(source, used);
    }

    // ---- shares

    public long best(int used, int what) {
        if (mud.sourceCount == 0) {
            return STATE;
        }
        if (!mud.isUsed(used) || what < 0 || what > 3) {
            return OUTSIDE;
        }
        nearest.find(mud, used);
        return ofNearest(what);
    }

    public long share(int source, int used, int part) {
        if (!mud.isSource(source)) {
            return UNKNOWN;
        }
        if (!mud.isUsed(used) || !isPart(part)) {
            return OUTSIDE;
        }
        nearest.find(mud, used);
        return shareByNearest(source, part);
    }

    public long press(int source, int used, int part) {
        if (!mud.isSource(source)) {
            return UNKNOWN;
        }
        if (!mud.isUsed(used) || !isPart(part)) {
            return OUTSIDE;
        }
        nearest.find(mud, used);
        return pressByNearest(source, part);
    }

    public long mixed(int tracer, int used, int part) {
        if (!mud.isTracer(tracer)) {
            return UNKNOWN;
        }
        if (!mud.isUsed(used) || !isPart(part)) {
            return OUTSIDE;
        }
        nearest.find(mud, used);
        return mixedByNearest(tracer, part);
    }

    public long corner(int set, int used, int what) {
        if (mud.sourceCount == 0) {
            return STATE;
        }
        if (!mud.isSet(set) || !mud.isUsed(used) || what < 0 || what > 2) {
            return OUTSIDE;
        }
        Fit fit = nearest.fit;
        fit.weigh(mud, used);
        fit.solve(set);
        if (what == 0) {
            return fit.isGood() ? 1 : 0;
        }
        return fit.isOnly() ? fit.misfit.part(what - 1) : NONE;
    }

    // ---- what is told of all

    public long count(int what) {
        switch (what) {
            case 0: return mud.sourceCount;
            case 1: return mud.tracerCount;
            case 2: return page.length;
            case 3: return timesRead;
            case 4: return timesAltered;
            default: return OUTSIDE;
        }
    }

    public long digest() {
        long h = digestOfMud(1709);
        if (mud.sourceCount > 0) {
            int all = mud.allTracers();
            h = digestOfShares(h, all);
            for (int tracer = 0; tracer < mud.tracerCount && mud.tracerCount > 1; tracer++) {
                h = digestOfShares(h, all & ~(1 << tracer));
            }
        }
        for (int place = 0; place < page.length; place++) {
            h = 31 * h + page.codeAt(place);
        }
        for (int what = 0; what <= 4; what++) {
            h = 31 * h + count(what);
        }
        return h;
    }

    private long digestOfMud(long start) {
        long h = start;
        for (int source = 0; source < mud.sourceCount; source++) {
            for (int what = 0; what < MOST_TRACERS; what++) {
                h = 31 * h + has(source, what);
            }
        }
        for (int tracer = 0; tracer < mud.tracerCount; tracer++) {
            h = 31 * h + tracer(tracer, 0);
            h = 31 * h + tracer(tracer, 1);
        }
        return h;
    }

    // Finds the best set once for all that is told of it: the public calls would find it again each time.
    private long digestOfShares(long start, int used) {
        nearest.find(mud, used);
        long h = start;
        for (int what = 0; what <= 3; what++) {
            h = 31 * h + ofNearest(what);
        }
        for (int source = 0; source < mud.sourceCount; source++) {
            h = 31 * h + shareByNearest(source, 0);
            h = 31 * h + shareByNearest(source, 1);
            h = 31 * h + pressByNearest(source, 0);
            h = 31 * h + pressByNearest(source, 1);
            h = 31 * h + mud.firstAlike(source, used);
        }
        for (int tracer = 0; tracer < mud.tracerCount; tracer++) {
            h = 31 * h + mixedByNearest(tracer, 0);
            h = 31 * h + mixedByNearest(tracer, 1);
        }
        return h;
    }

    private long ofNearest(int what) {
        switch (what) {
            case 0: return nearest.set;
            case 1: return nearest.misfit.above;
            case 2: return nearest.misfit.below;
            default: return nearest.corners;
        }
    }

    private long shareByNearest(int source, int part) {
        Fit fit = nearest.fit;
        told.put(fit.partOf(source), fit.below);
        return told.part(part);
    }

    private long pressByNearest(int source, int part) {
        Fit fit = nearest.fit;
        told.put(fit.pressAbove(source), fit.below);
        return told.part(part);
    }

    private long mixedByNearest(int tracer, int part) {
        Fit fit = nearest.fit;
        told.put(fit.mixedAbove(mud, tracer), fit.below);
        return told.part(part);
    }

    private long putHeld(int row, int tracer, int v) {
        long was = mud.heldOf(row, tracer);
        mud.putHeld(row, tracer, v);
        timesAltered++;
        return was;
    }

    private static boolean isHeld(int v) {
        return v >= 0 && v <= MOST_HELD;
    }

    private static boolean isPart(int part) {
        return part == 0 || part == 1;
    }

    private static boolean isMultiple(int n, int divisor) {
        return divisor > 0 && n % divisor == 0;
    }

    private static int quotient(int n, int divisor) {
        return divisor > 0 ? n / divisor : 0;
    }

    private static boolean isIn(int set, int number) {
        return (set >> number & 1) == 1;
    }

    private static int powerOfTen(int exponent) {
        int power = 1;
        for (int i = 0; i < MOST_SOURCES && i < exponent; i++) {
            power *= 10;
        }
        return power;
    }

    private static int figureSum(int parts) {
        int sum = 0;
        int rest = parts;
        for (int i = 0; i < MOST_SOURCES; i++) {
            sum += rest % 10;
            rest /= 10;
        }
        return sum;
    }

    /** The letters that are to be read, by their codes. */
    private static final class Page {
        private final int[] codes;
        int length;

        Page() {
            codes = new int[MOST_LETTERS];
        }

        boolean isFull() {
            return length >= MOST_LETTERS;
        }

        void append(int code) {
            if (length >= 0 && length < MOST_LETTERS) {
                codes[length] = code;
                length++;
            }
        }

        void empty() {
            length = 0;
        }

        int codeAt(int place) {
            return place >= 0 && place < length && place < MOST_LETTERS ? codes[place] : 0;
        }
    }

    /** Reads a page letter by letter as sources; refuses a letter with which no sources can go on. */
    private static final class Reader {
        private static final int NO_FIGURE = -1;

        private final int[] draft;
        private int source;
        private int tracer;
        private int width;
        private int number;

        Reader() {
            draft = new int[MOST_SOURCES * MOST_TRACERS];
        }

        /** How many letters are taken until one is refused, or all. */
        int read(Page page) {
            start();
            for (int place = 0; place < page.length; place++) {
                if (!takes(page.codeAt(place))) {
                    return place;
                }
            }
            return page.length;
        }

        /** Whether what was taken is sources as it stands; keeps its last number, which has no sign behind it. */
        boolean finish() {
            if (number == NO_FIGURE || !isLastTracer()) {
                return false;
            }
            keepNumber();
            return true;
        }

        int sourcesRead() {
            return source + 1;
        }

        int tracersRead() {
            return tracer + 1;
        }

        int draftOf(int ofSource, int ofTracer) {
            int at = ofSource * MOST_TRACERS + ofTracer;
            return at >= 0 && at < MOST_SOURCES * MOST_TRACERS ? draft[at] : 0;
        }

        private void start() {
            for (int at = 0; at < MOST_SOURCES * MOST_TRACERS; at++) {
                draft[at] = 0;
            }
            source = 0;
            tracer = 0;
            width = 0;
            number = NO_FIGURE;
        }

        private boolean takes(int code) {
            switch (code) {
                case ',': return takesComma();
                case ';': return takesSemicolon();
                default: return code >= '0' && code <= '9' && takesFigure(code - '0');
            }
        }

        private boolean takesFigure(int figure) {
            if (number == NO_FIGURE) {
                number = figure;
                return true;
            }
            int longer = number * 10 + figure;
            if (number == 0 || longer > MOST_HELD) {
                return false;
            }
            number = longer;
            return true;
        }

        private boolean takesComma() {
            int limit = source == 0 ? MOST_TRACERS : width;
            if (number == NO_FIGURE || tracer + 1 >= limit) {
                return false;
            }
            keepNumber();
            tracer++;
            return true;
        }

        private boolean takesSemicolon() {
            if (number == NO_FIGURE || !isLastTracer() || source + 1 >= MOST_SOURCES) {
                return false;
            }
            keepNumber();
            width = tracer + 1;
            source++;
            tracer = 0;
            return true;
        }

        private boolean isLastTracer() {
            return source == 0 || tracer + 1 == width;
        }

        private void keepNumber() {
            int at = source * MOST_TRACERS + tracer;
            if (at >= 0 && at < MOST_SOURCES * MOST_TRACERS) {
                draft[at] = number;
            }
            number = NO_FIGURE;
        }
    }

    /** What the sources and the mixture have, and the weights. Beyond the tracers that there are, all have 0. */
    private static final class Mud {
        private final int[] held;
        private final int[] weights;
        int sourceCount;
        int tracerCount;

        Mud() {
            held = new int[ROWS * MOST_TRACERS];
            weights = new int[MOST_TRACERS];
        }

        void become(Reader reader) {
            sourceCount = reader.sourcesRead();
            tracerCount = reader.tracersRead();
            for (int tracer = 0; tracer < MOST_TRACERS; tracer++) {
                for (int source = 0; source < MOST_SOURCES; source++) {
                    held[source * MOST_TRACERS + tracer] = reader.draftOf(source, tracer);
                }
                held[MIXTURE * MOST_TRACERS + tracer] = 0;
                weights[tracer] = 1;
            }
        }

        boolean isSource(int source) {
            return source >= 0 && source < sourceCount;
        }

        boolean isTracer(int tracer) {
            return tracer >= 0 && tracer < tracerCount;
        }

        boolean isSet(int set) {
            return set >= 1 && set <= allSources();
        }

        boolean isUsed(int used) {
            return used >= 1 && used <= allTracers();
        }

        int allSources() {
            return (1 << sourceCount) - 1;
        }

        int allTracers() {
            return (1 << tracerCount) - 1;
        }

        int heldOf(int row, int tracer) {
            return isPlace(row, tracer) ? held[row * MOST_TRACERS + tracer] : 0;
        }

        void putHeld(int row, int tracer, int v) {
            if (isPlace(row, tracer)) {
                held[row * MOST_TRACERS + tracer] = v;
            }
        }

        int weightOf(int tracer) {
            return tracer >= 0 && tracer < MOST_TRACERS ? weights[tracer] : 0;
        }

        void putWeight(int tracer, int v) {
            if (tracer >= 0 && tracer < MOST_TRACERS) {
                weights[tracer] = v;
            }
        }

        /** What all sources have of a tracer, each as often as its figure in parts says. */
        int heldByParts(int tracer, int parts) {
            int sum = 0;
            int rest = parts;
            for (int source = 0; source < MOST_SOURCES; source++) {
                sum += rest % 10 * heldOf(source, tracer);
                rest /= 10;
            }
            return sum;
        }

        int firstAlike(int source, int used) {
            for (int earlier = 0; earlier < source; earlier++) {
                if (areAlike(earlier, source, used)) {
                    return earlier;
                }
            }
            return source;
        }

        /** Of each tracer that is used its weight times what both rows have of it, all together. */
        long product(int row, int other, int used) {
            long sum = 0;
            for (int tracer = 0; tracer < MOST_TRACERS; tracer++) {
                if (isIn(used, tracer)) {
                    sum += (long) weightOf(tracer) * heldOf(row, tracer) * heldOf(other, tracer);
                }
            }
            return sum;
        }

        private boolean areAlike(int source, int other, int used) {
            for (int tracer = 0; tracer < MOST_TRACERS; tracer++) {
                if (isIn(used, tracer) && heldOf(source, tracer) != heldOf(other, tracer)) {
                    return false;
                }
            }
            return true;
        }

        private static boolean isPlace(int row, int tracer) {
            return row >= 0 && row < ROWS && tracer >= 0 && tracer < MOST_TRACERS;
        }
    }

    /**
     * The shares, one together, by which one set of sources has the least misfit.
     * The share of the base (the set's first source) is what the others leave of one, so the others' shares are free:
     * they solve the normal equations of the differences from the base. All numbers stay far below 10 to the power
     * of 18: a product of differences is 8000 at most, a determinant of three such rows below 4 * 10^12.
     */
    private static final class Fit {
        private final long[] products;
        private final long[] matrix;
        private final long[] side;
        private final long[] parts;
        final Fraction misfit;
        private int set;
        private int base;
        long below;

        Fit() {
            products = new long[ROWS * ROWS];
            matrix = new long[OTHERS * OTHERS];
            side = new long[OTHERS];
            parts = new long[MOST_SOURCES];
            misfit = new Fraction();
        }

        /** Makes ready for sets by these tracers. */
        void weigh(Mud mud, int used) {
            for (int row = 0; row < ROWS; row++) {
                for (int other = 0; other < ROWS; other++) {
                    products[row * ROWS + other] = mud.product(row, other, used);
                }
            }
        }

        void solve(int ofSet) {
            set = ofSet;
            base = firstOf(ofSet);
            writeEquations();
            below = determinant();
            solveParts();
            misfit.put(misfitAbove(), below);
        }

        /** Whether just one row has the least misfit. */
        boolean isOnly() {
            return below > 0;
        }

        boolean isGood() {
            for (int source = 0; source < MOST_SOURCES; source++) {
                if (isIn(set, source) && parts[source] <= 0) {
                    return false;
                }
            }
            return isOnly();
        }

        /** The share of a source, times below. */
        long partOf(int source) {
            return source >= 0 && source < MOST_SOURCES ? parts[source] : 0;
        }

        /**
         * The press at a source, times below. What all have by shares, less the base, is made of differences on which
         * what is left over stands upright; so the press is the same when measured from the base, without a square
         * of below.
         */
        long pressAbove(int source) {
            long sum = -below * fromBase(source, MIXTURE);
            for (int other = 0; other < MOST_SOURCES; other++) {
                sum += parts[other] * fromBase(source, other);
            }
            return sum;
        }

        /** What all have of a tracer by shares, times below. */
        long mixedAbove(Mud mud, int tracer) {
            long sum = 0;
            for (int source = 0; source < MOST_SOURCES; source++) {
                sum += parts[source] * mud.heldOf(source, tracer);
            }
            return sum;
        }

        // A source that is not of the set gets an equation of its own, share = 0, so that all sets have three.
        private void writeEquations() {
            for (int i = 0; i < OTHERS; i++) {
                boolean inSet = isIn(set, otherAt(i));
                for (int j = 0; j < OTHERS; j++) {
                    long padding = i == j ? 1 : 0;
                    boolean both = inSet && isIn(set, otherAt(j));
                    matrix[i * OTHERS + j] = both ? fromBase(otherAt(i), otherAt(j)) : padding;
                }
                side[i] = inSet ? fromBase(otherAt(i), MIXTURE) : 0;
            }
        }

        private void solveParts() {
            long rest = below;
            for (int i = 0; i < OTHERS; i++) {
                long part = 0;
                for (int j = 0; j < OTHERS; j++) {
                    part += cofactor(i, j) * side[j];
                }
                putPart(otherAt(i), part);
                rest -= part;
            }
            putPart(base, rest);
        }

        private long misfitAbove() {
            long above = below * fromBase(MIXTURE, MIXTURE);
            for (int i = 0; i < OTHERS; i++) {
                above -= side[i] * partOf(otherAt(i));
            }
            return above;
        }

        private long determinant() {
            long sum = 0;
            for (int j = 0; j < OTHERS; j++) {
                sum += matrix[j] * cofactor(0, j);
            }
            return sum;
        }

        // Rows and columns are taken in turn around, which gives each cofactor its sign.
        private long cofactor(int i, int j) {
            return entry(i + 1, j + 1) * entry(i + 2, j + 2) - entry(i + 1, j + 2) * entry(i + 2, j + 1);
        }

        private long entry(int i, int j) {
            int at = i % OTHERS * OTHERS + j % OTHERS;
            return at >= 0 && at < OTHERS * OTHERS ? matrix[at] : 0;
        }

        private void putPart(int source, long part) {
            if (source >= 0 && source < MOST_SOURCES) {
                parts[source] = part;
            }
        }

        private int otherAt(int i) {
            return i < base ? i : i + 1;
        }

        /** The product of what two rows have, each less what the base has. */
        private long fromBase(int row, int other) {
            return productOf(row, other) - productOf(row, base) - productOf(base, other) + productOf(base, base);
        }

        private long productOf(int row, int other) {
            int at = row * ROWS + other;
            return at >= 0 && at < ROWS * ROWS ? products[at] : 0;
        }

        private static int firstOf(int set) {
            for (int source = 0; source < MOST_SOURCES; source++) {
                if (isIn(set, source)) {
                    return source;
                }
            }
            return 0;
        }
    }

    /** Finds the good set with the least misfit, and leaves its shares in the fit. */
    private static final class Nearest {
        final Fit fit;
        final Fraction misfit;
        int set;
        int corners;

        Nearest() {
            fit = new Fit();
            misfit = new Fraction();
        }

        void find(Mud mud, int used) {
            set = 0;
            corners = 0;
            fit.weigh(mud, used);
            int last = mud.allSources();
            for (int candidate = 1; candidate <= last; candidate++) {
                fit.solve(candidate);
                if (fit.isGood()) {
                    corners++;
                    weighUp(candidate);
                }
            }
            fit.solve(set);
        }

        // Candidates come in the order of their bits, so of like ones the first stays.
        private void weighUp(int candidate) {
            int order = set == 0 ? -1 : fit.misfit.against(misfit);
            boolean fewer = Integer.bitCount(candidate) < Integer.bitCount(set);
            if (order < 0 || order == 0 && fewer) {
                set = candidate;
                misfit.copy(fit.misfit);
            }
        }
    }

    /** A fraction in lowest terms, what is below being above 0. */
    private static final class Fraction {
        long above;
        long below;

        Fraction() {
            above = 0;
            below = 1;
        }

        void put(long over, long under) {
            long divisor = commonDivisor(Math.abs(over), under);
            if (under <= 0 || divisor <= 0) {
                above = 0;
                below = 1;
                return;
            }
            above = over / divisor;
            below = under / divisor;
        }

        void copy(Fraction other) {
            above = other.above;
            below = other.below;
        }

        long part(int which) {
            return which == 0 ? above : below;
        }

        /**
         * Below 0, 0 or above 0, as this is less than, like or more than the other (none below 0). Goes down both
         * continued fractions, since the products across would not fit in a long.
         */
        int against(Fraction other) {
            long a = above;
            long b = below;
            long c = other.above;
            long d = other.below;
            int sign = 1;
            for (int step = 0; step < EUCLID_STEPS && b > 0 && d > 0; step++) {
                int order = Long.compare(a / b, c / d);
                long restHere = a % b;
                long restThere = c % d;
                if (order != 0) {
                    return sign * order;
                }
                if (restHere == 0 || restThere == 0) {
                    return sign * Long.compare(restHere, restThere);
                }
                a = b;
                b = restHere;
                c = d;
                d = restThere;
                sign = -sign;
            }
            return 0;
        }

        private static long commonDivisor(long m, long n) {
            long a = m;
            long b = n;
            for (int step = 0; step < EUCLID_STEPS && b > 0; step++) {
                long rest = a % b;
                a = b;
                b = rest;
            }
            return a;
        }
    }
}
