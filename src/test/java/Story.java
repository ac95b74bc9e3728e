import java.util.ArrayList;
import java.util.List;
import java.util.regex.Matcher;
import java.util.regex.Pattern;

/**
 * A run of calls on a new object, told as text: "set(0, 0, 21) OUTSIDE" is a call and the answer that is due. Of each
 * call that is refused it is looked at once more that it changes nothing: the same run is told to two other objects, to
 * one of them without that call, and then all that can be asked is asked of both.
 */
final class Story {
    // By their numbers, not by the program's constants, which may be wrong too.
    static final long NONE = -1000001L;
    static final long UNKNOWN = -1000002L;
    static final long OUTSIDE = -1000003L;
    static final long STATE = -1000004L;
    static final long FULL = -1000005L;

    static final int MOST_CALLS = 512;

    private static final Pattern CALL = Pattern.compile("\\s*([a-z]+)\\(([^)]*)\\) (-?\\w+)");

    /** A call with its arguments. */
    private record Asked(String name, int[] given) {
        long on(MudShares x) {
            return switch (name) {
                case "letter" -> x.letter(given[0]);
                case "blank" -> x.blank();
                case "fault" -> x.fault();
                case "sources" -> x.sources();
                case "set" -> x.set(given[0], given[1], given[2]);
                case "alter" -> x.alter(given[0], given[1], given[2]);
                case "made" -> x.made(given[0]);
                case "has" -> x.has(given[0], given[1]);
                case "tracer" -> x.tracer(given[0], given[1]);
                case "alike" -> x.alike(given[0], given[1]);
                case "best" -> x.best(given[0], given[1]);
                case "share" -> x.share(given[0], given[1], given[2]);
                case "press" -> x.press(given[0], given[1], given[2]);
                case "mixed" -> x.mixed(given[0], given[1], given[2]);
                case "corner" -> x.corner(given[0], given[1], given[2]);
                case "count" -> x.count(given[0]);
                case "digest" -> x.digest();
                default -> throw new IllegalArgumentException("no such call: " + name);
            };
        }
    }

    private final Check check;
    private final MudShares x = new MudShares();
    private final List<Asked> past = new ArrayList<>();
    private String beginning = "";

    Story(Check check) {
        this.check = check;
    }

    /** Puts a text behind the page. */
    Story write(String text) {
        for (int i = 0; i < text.length(); i++) {
            ask(new Asked("letter", new int[] {text.charAt(i)}));
        }
        beginning = beginning + "'" + text + "' ";
        return this;
    }

    /** Makes sources of a text, which must be some. */
    Story read(String text) {
        write(text);
        check.due(beginning + "is read", ask(new Asked("sources", new int[0])) > 0);
        return this;
    }

    /** Calls with the answers that are due, one or more in each row. */
    Story due(String... rows) {
        for (String row : rows) {
            Matcher m = CALL.matcher(row);
            int end = 0;
            while (m.find(end) && m.start() == end) {
                one(new Asked(m.group(1), numbers(m.group(2))), m.group().strip(), answer(m.group(3)));
                end = m.end();
            }
            if (end != row.length()) {
                throw new IllegalArgumentException("not a row of calls: " + row);
            }
        }
        return this;
    }

    private void one(Asked call, String words, long want) {
        if (isRefusal(want)) {
            changesNothing(call, words);
        }
        check.due(beginning + words.substring(0, words.lastIndexOf(' ')), ask(call), want);
    }

    private long ask(Asked call) {
        past.add(call);
        if (past.size() > MOST_CALLS) {
            throw new IllegalStateException("nothing is promised behind call " + MOST_CALLS);
        }
        return call.on(x);
    }

    private void changesNothing(Asked call, String words) {
        MudShares without = retold();
        MudShares with = retold();
        call.on(with);
        List<Long> due = view(without);
        List<Long> got = view(with);
        for (int i = 0; i < due.size(); i++) {
            check.due(beginning + words + " changes nothing, but of all that is asked then number " + i,
                got.get(i), due.get(i));
        }
    }

    private MudShares retold() {
        MudShares twin = new MudShares();
        for (Asked call : past) {
            call.on(twin);
        }
        return twin;
    }

    /** All that can be asked; at last the page is read, so that each of its letters counts. */
    private List<Long> view(MudShares of) {
        List<Long> told = new ArrayList<>();
        for (int what = 0; what <= 4; what++) told.add(of.count(what));
        for (int at = 0; at < 16; at++) told.add(of.has(at / 4, at % 4));
        for (int at = 0; at < 8; at++) told.add(of.tracer(at / 2, at % 2));
        told.add(of.fault());
        told.add(of.digest());
        told.add(of.sources());
        told.add(of.digest());
        told.add(of.letter('1'));
        if (past.size() + 1 + told.size() > MOST_CALLS) {
            throw new IllegalStateException("too long a run to be told again and looked at");
        }
        return told;
    }

    static boolean isRefusal(long answer) {
        return answer == UNKNOWN || answer == OUTSIDE || answer == STATE || answer == FULL;
    }

    private static int[] numbers(String words) {
        if (words.isBlank()) {
            return new int[0];
        }
        String[] parts = words.split(",");
        int[] numbers = new int[parts.length];
        for (int i = 0; i < parts.length; i++) {
            numbers[i] = number(parts[i].strip());
        }
        return numbers;
    }

    private static int number(String word) {
        return switch (word) {
            case "MIN" -> Integer.MIN_VALUE;
            case "MAX" -> Integer.MAX_VALUE;
            default -> Integer.parseInt(word);
        };
    }

    private static long answer(String word) {
        return switch (word) {
            case "NONE" -> NONE;
            case "UNKNOWN" -> UNKNOWN;
            case "OUTSIDE" -> OUTSIDE;
            case "STATE" -> STATE;
            case "FULL" -> FULL;
            default -> Long.parseLong(word);
        };
    }
}
