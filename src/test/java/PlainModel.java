import java.util.ArrayList;
import java.util.HashMap;
import java.util.List;
import java.util.Map;

/**
 * The document's words once more, as plainly as they can be put and on another way than the program: texts are cut at
 * their signs, shares come from the Lagrange equations by elimination over fractions of any size, and misfit and press
 * are summed up just as they are told.
 */
final class PlainModel {
    /** What is found by some tracers: the best set, its misfit and shares, and how many good sets there are. */
    record Found(int set, Ratio misfit, Ratio[] shares, int corners) { }

    final StringBuilder page = new StringBuilder();
    int[][] held = new int[0][0];
    int[] amounts = new int[0];
    int[] weights = new int[0];
    private long timesRead;
    private long timesAltered;
    private final Map<Integer, Found> found = new HashMap<>();

    int tracers() {
        return amounts.length;
    }

    // ---- texts

    long letter(int code) {
        if (code < 32 || code > 126) return MudShares.OUTSIDE;
        if (page.length() == 47) return MudShares.FULL;
        page.append((char) code);
        return page.length();
    }

    long blank() {
        int had = page.length();
        page.setLength(0);
        return had;
    }

    static int[][] parse(String text) {
        String[] sources = text.split(";", -1);
        if (sources.length > 4) return null;
        int[][] rows = new int[sources.length][];
        for (int i = 0; i < sources.length; i++) {
            String[] numbers = sources[i].split(",", -1);
            rows[i] = new int[numbers.length];
            if (numbers.length > 4 || numbers.length != rows[0].length) return null;
            for (int t = 0; t < numbers.length; t++) {
                if (!numbers[t].matches("0|[1-9]|1[0-9]|20")) return null;
                rows[i][t] = Integer.parseInt(numbers[t]);
            }
        }
        return rows;
    }

    /** Whether some sources begin so: whether one of all plain endings makes sources of it. */
    static boolean begins(String text) {
        for (String number : new String[] {"", "0"}) {
            StringBuilder whole = new StringBuilder(text).append(number);
            for (int more = 0; more < 4; more++) {
                if (parse(whole.toString()) != null) return true;
                whole.append(",0");
            }
        }
        return false;
    }

    long fault() {
        for (int place = 0; place < page.length(); place++) {
            if (!begins(page.substring(0, place + 1))) return place;
        }
        return page.length();
    }

    long sources() {
        int[][] rows = parse(page.toString());
        if (rows == null) return MudShares.STATE;
        held = rows;
        amounts = new int[rows[0].length];
        weights = new int[rows[0].length];
        java.util.Arrays.fill(weights, 1);
        page.setLength(0);
        timesRead++;
        found.clear();
        return held.length;
    }

    // ---- what is told

    long set(int tracer, int what, int v) {
        if (!isTracer(tracer)) return MudShares.UNKNOWN;
        if (what != 0 && what != 1) return MudShares.OUTSIDE;
        if (what == 0 && (v < 0 || v > 20)) return MudShares.OUTSIDE;
        if (what == 1 && (v < 1 || v > 5)) return MudShares.OUTSIDE;
        int[] row = what == 0 ? amounts : weights;
        int was = row[tracer];
        row[tracer] = v;
        altered();
        return was;
    }

    long alter(int source, int tracer, int v) {
        if (!isSource(source) || !isTracer(tracer)) return MudShares.UNKNOWN;
        if (v < 0 || v > 20) return MudShares.OUTSIDE;
        int was = held[source][tracer];
        held[source][tracer] = v;
        altered();
        return was;
    }

    long made(int parts) {
        if (held.length == 0) return MudShares.STATE;
        if (parts < 1 || parts > Math.pow(10, held.length) - 1) return MudShares.OUTSIDE;
        String figures = new StringBuilder(String.valueOf(parts)).reverse().append("0000").toString();
        int all = 0;
        int[] sums = new int[tracers()];
        for (int s = 0; s < held.length; s++) {
            int part = figures.charAt(s) - '0';
            all += part;
            for (int t = 0; t < tracers(); t++) sums[t] += part * held[s][t];
        }
        for (int t = 0; t < tracers(); t++) {
            if (sums[t] % all != 0) return MudShares.STATE;
        }
        for (int t = 0; t < tracers(); t++) amounts[t] = sums[t] / all;
        altered();
        return all;
    }

    private void altered() {
        timesAltered++;
        found.clear();
    }

    // ---- sources

    long has(int source, int what) {
        if (!isSource(source)) return MudShares.UNKNOWN;
        if (what < 0 || what > 3) return MudShares.OUTSIDE;
        return what < tracers() ? held[source][what] : MudShares.NONE;
    }

    long tracer(int tracer, int what) {
        if (!isTracer(tracer)) return MudShares.UNKNOWN;
        if (what != 0 && what != 1) return MudShares.OUTSIDE;
        return what == 0 ? amounts[tracer] : weights[tracer];
    }

    long alike(int source, int used) {
        if (!isSource(source)) return MudShares.UNKNOWN;
        if (!isUsed(used)) return MudShares.OUTSIDE;
        for (int s = 0; ; s++) {
            boolean same = true;
            for (int t : bits(used)) same &= held[s][t] == held[source][t];
            if (same) return s;
        }
    }

    // ---- shares

    long best(int used, int what) {
        if (held.length == 0) return MudShares.STATE;
        if (!isUsed(used) || what < 0 || what > 3) return MudShares.OUTSIDE;
        Found f = find(used);
        return what == 0 ? f.set : what == 3 ? f.corners : f.misfit.part(what - 1);
    }

    long share(int source, int used, int part) {
        if (!isSource(source)) return MudShares.UNKNOWN;
        if (!isUsed(used) || part < 0 || part > 1) return MudShares.OUTSIDE;
        return find(used).shares[source].part(part);
    }

    long press(int source, int used, int part) {
        if (!isSource(source)) return MudShares.UNKNOWN;
        if (!isUsed(used) || part < 0 || part > 1) return MudShares.OUTSIDE;
        return pressOf(source, used).part(part);
    }

    long mixed(int tracer, int used, int part) {
        if (!isTracer(tracer)) return MudShares.UNKNOWN;
        if (!isUsed(used) || part < 0 || part > 1) return MudShares.OUTSIDE;
        return mix(tracer, find(used).shares).part(part);
    }

    long corner(int set, int used, int what) {
        if (held.length == 0) return MudShares.STATE;
        if (set < 1 || set >= 1 << held.length || !isUsed(used) || what < 0 || what > 2) return MudShares.OUTSIDE;
        Ratio[] row = leastRow(set, used);
        if (what == 0) return isGood(set, row) ? 1 : 0;
        return row == null ? MudShares.NONE : misfit(row, used).part(what - 1);
    }

    Ratio pressOf(int source, int used) {
        Ratio[] shares = find(used).shares;
        Ratio sum = Ratio.ZERO;
        for (int t : bits(used)) {
            Ratio mixed = mix(t, shares);
            Ratio from = Ratio.of(held[source][t]).minus(mixed);
            sum = sum.plus(Ratio.of(weights[t]).times(from).times(mixed.minus(Ratio.of(amounts[t]))));
        }
        return sum;
    }

    Found find(int used) {
        return found.computeIfAbsent(used, this::findAnew);
    }

    private Found findAnew(int used) {
        Found best = null;
        int corners = 0;
        for (int set = 1; set < 1 << held.length; set++) {
            Ratio[] row = leastRow(set, used);
            if (!isGood(set, row)) continue;
            corners++;
            Ratio misfit = misfit(row, used);
            int order = best == null ? -1 : misfit.minus(best.misfit).sign();
            if (order == 0) order = Integer.bitCount(set) - Integer.bitCount(best.set);
            if (order == 0) order = set - best.set;
            if (order < 0) best = new Found(set, misfit, row, 0);
        }
        return new Found(best.set, best.misfit, best.shares, corners);
    }

    private static boolean isGood(int set, Ratio[] row) {
        if (row == null) return false;
        for (int s : bits(set)) {
            if (row[s].sign() <= 0) return false;
        }
        return true;
    }

    /** The one row of shares with the least misfit, 0 for others than the set; null if there are more such rows. */
    private Ratio[] leastRow(int set, int used) {
        List<Integer> members = bits(set);
        int k = members.size();
        Ratio[][] rows = new Ratio[k + 1][k + 2];
        for (int i = 0; i < k; i++) {
            for (int j = 0; j < k; j++) {
                rows[i][j] = Ratio.of(product(held[members.get(i)], held[members.get(j)], used));
            }
            rows[i][k] = Ratio.ONE;
            rows[k][i] = Ratio.ONE;
            rows[i][k + 1] = Ratio.of(product(held[members.get(i)], amounts, used));
        }
        rows[k][k] = Ratio.ZERO;
        rows[k][k + 1] = Ratio.ONE;
        if (!eliminate(rows)) return null;
        Ratio[] row = new Ratio[held.length];
        java.util.Arrays.fill(row, Ratio.ZERO);
        for (int i = 0; i < k; i++) row[members.get(i)] = rows[i][k + 1];
        return row;
    }

    private static boolean eliminate(Ratio[][] rows) {
        int n = rows.length;
        for (int c = 0; c < n; c++) {
            int pivot = c;
            while (pivot < n && rows[pivot][c].sign() == 0) pivot++;
            if (pivot == n) return false;
            Ratio[] swapped = rows[c];
            rows[c] = rows[pivot];
            rows[pivot] = swapped;
            Ratio head = rows[c][c];
            for (int j = 0; j <= n; j++) rows[c][j] = rows[c][j].over(head);
            for (int i = 0; i < n; i++) {
                Ratio factor = rows[i][c];
                for (int j = 0; i != c && j <= n; j++) rows[i][j] = rows[i][j].minus(factor.times(rows[c][j]));
            }
        }
        return true;
    }

    private long product(int[] a, int[] b, int used) {
        long sum = 0;
        for (int t : bits(used)) sum += (long) weights[t] * a[t] * b[t];
        return sum;
    }

    private Ratio misfit(Ratio[] shares, int used) {
        Ratio sum = Ratio.ZERO;
        for (int t : bits(used)) {
            Ratio off = mix(t, shares).minus(Ratio.of(amounts[t]));
            sum = sum.plus(Ratio.of(weights[t]).times(off).times(off));
        }
        return sum;
    }

    private Ratio mix(int tracer, Ratio[] shares) {
        Ratio sum = Ratio.ZERO;
        for (int s = 0; s < held.length; s++) sum = sum.plus(shares[s].times(Ratio.of(held[s][tracer])));
        return sum;
    }

    // ---- what is told of all

    long count(int what) {
        return switch (what) {
            case 0 -> held.length;
            case 1 -> tracers();
            case 2 -> page.length();
            case 3 -> timesRead;
            case 4 -> timesAltered;
            default -> MudShares.OUTSIDE;
        };
    }

    long digest() {
        List<Long> told = new ArrayList<>();
        for (int s = 0; s < held.length; s++) {
            for (int what = 0; what <= 3; what++) told.add(has(s, what));
        }
        for (int t = 0; t < tracers(); t++) {
            told.add(tracer(t, 0));
            told.add(tracer(t, 1));
        }
        if (held.length > 0) {
            int all = (1 << tracers()) - 1;
            tellShares(told, all);
            if (tracers() > 1) {
                for (int t = 0; t < tracers(); t++) tellShares(told, all - (1 << t));
            }
        }
        for (char c : page.toString().toCharArray()) told.add((long) c);
        for (int what = 0; what <= 4; what++) told.add(count(what));
        long h = 1709;
        for (long number : told) h = 31 * h + number;
        return h;
    }

    private void tellShares(List<Long> told, int used) {
        for (int what = 0; what <= 3; what++) told.add(best(used, what));
        for (int s = 0; s < held.length; s++) {
            told.add(share(s, used, 0));
            told.add(share(s, used, 1));
            told.add(press(s, used, 0));
            told.add(press(s, used, 1));
            told.add(alike(s, used));
        }
        for (int t = 0; t < tracers(); t++) {
            told.add(mixed(t, used, 0));
            told.add(mixed(t, used, 1));
        }
    }

    private boolean isSource(int source) {
        return source >= 0 && source < held.length;
    }

    private boolean isTracer(int tracer) {
        return tracer >= 0 && tracer < tracers();
    }

    private boolean isUsed(int used) {
        return used >= 1 && used <= (1 << tracers()) - 1;
    }

    private static List<Integer> bits(int set) {
        List<Integer> numbers = new ArrayList<>();
        for (int i = 0; i < 4; i++) {
            if ((set & 1 << i) != 0) numbers.add(i);
        }
        return numbers;
    }
}
