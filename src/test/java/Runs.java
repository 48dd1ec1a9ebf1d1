import java.util.ArrayList;
import java.util.List;
import java.util.Map;
import java.util.TreeMap;
import java.util.regex.Matcher;
import java.util.regex.Pattern;

/**
 * Makes runs of calls on new objects, told in rows of text, and looks whether each answers what is due:
 *
 *   issue(0, 0, 5) = 5                   it answers 5
 *   link(0, 1)                           it throws nothing
 *   end() throws IllegalState            it throws just IllegalStateException, and changes nothing
 *   7 times land(1, 0, 0, 0, 1, false)   the same call again and again
 *   # words for the reader
 *
 * That a refused call, or a question, changed nothing is seen from objects that it was made on and such that
 * it wasn't: all the Probes must hear the same from both. No object gets more than the 512 calls that it is
 * good for.
 */
final class Runs {
    /** Rows for years in which nothing is told. */
    static final String SEVEN_YEARS = "open(0, 0, 0, 0)\nend()\n".repeat(7);

    private static final Pattern PROMISE = Pattern.compile("promise (\\d+): .*");
    private static final int MOST_CALLS = 512;
    /** One fault can show in hundreds of rows; the first ones tell enough. */
    private static final int MOST_WRONG = 20;

    private int wrong = 0;
    /** How many runs each promise has, by the titles that name one. */
    private final Map<Integer, Integer> promises = new TreeMap<>();
    private String title = "";
    private QuotaRegister x = new QuotaRegister();
    /** The calls that may have changed the object. */
    private final List<Call> changes = new ArrayList<>();
    private int made = 0;
    /** What the probes hear from an object with just these changes; empty where it was not asked for yet. */
    private final List<List<String>> heard = new ArrayList<>();

    /** A run; its title names the promise. */
    void run(String title, String rows) {
        this.title = title;
        Matcher named = PROMISE.matcher(title);
        if (named.matches()) {
            promises.merge(Integer.valueOf(named.group(1)), 1, Integer::sum);
        }
        x = new QuotaRegister();
        changes.clear();
        heard.clear();
        made = 0;
        rows.lines().map(String::trim).filter(row -> !row.isEmpty() && !row.startsWith("#")).forEach(this::row);
    }

    /** A run for each number 0 .. count - 1 in the place of name, and the next one (0 behind the last) for name+. */
    void each(String name, int count, String title, String rows) {
        for (int i = 0; i < count; i++) {
            String next = String.valueOf((i + 1) % count);
            run(title + ", " + name + " = " + i, rows.replace(name + "+", next).replace(name, String.valueOf(i)));
        }
    }

    private void row(String row) {
        String[] halves = row.split(" times ");
        int times = halves.length == 2 ? Integer.parseInt(halves[0].trim()) : 1;
        String once = halves[halves.length - 1];
        int bracket = once.lastIndexOf(')');
        Call call = Call.read(once.substring(0, bracket + 1));
        String due = once.substring(bracket + 1).trim();
        for (int i = 0; i < times; i++) {
            made++;
            look(row, due, call);
        }
        if (made > MOST_CALLS) {
            complain(row, "is beyond the calls that an object is good for");
        }
    }

    private void look(String row, String due, Call call) {
        String answer = call.on(x);
        boolean refused = due.startsWith("throws ");
        if (refused) {
            mustAnswer(row, due + "Exception", answer);
        } else if (due.startsWith("= ")) {
            mustAnswer(row, due.substring(2).trim(), answer);
        } else if (!due.isEmpty() || answer.startsWith("throws ")) {
            complain(row, "answered " + answer);
        }
        if (refused || call.isQuestion()) {
            mustChangeNothing(row, call);
        } else {
            changes.add(call);
            heard.clear();
        }
    }

    private void mustAnswer(String row, String due, String answer) {
        if (!answer.equals(due)) {
            complain(row, "answered " + answer);
        }
    }

    private void mustChangeNothing(String row, Call call) {
        if (changes.size() + 1 + Probes.MOST_CALLS > MOST_CALLS) {
            if (!call.isQuestion()) {
                complain(row, "comes too late for the probes");
            }
            return;
        }
        for (int probe = 0; probe < Probes.COUNT; probe++) {
            if (heard.size() == probe) {
                heard.add(Probes.answersTo(probe, changed()));
            }
            QuotaRegister other = changed();
            call.on(other);
            if (!Probes.answersTo(probe, other).equals(heard.get(probe))) {
                complain(row, "changed something, as probe " + probe + " hears");
            }
        }
    }

    private QuotaRegister changed() {
        QuotaRegister other = new QuotaRegister();
        for (Call call : changes) {
            call.on(other);
        }
        return other;
    }

    private void complain(String row, String what) {
        wrong++;
        System.out.println(title + ": " + row + ": " + what);
        if (wrong == MOST_WRONG) {
            finish();
        }
    }

    /** Ends the test's program; else says which promises were looked at, as .ci/run wants to hear of each. */
    void finish() {
        if (wrong != 0) {
            System.out.println((wrong == MOST_WRONG ? "at least " : "") + wrong + " rows are not as due");
            System.exit(1);
        }
        promises.forEach((promise, runs) -> System.out.println("promise " + promise + ": runs as due: " + runs));
    }
}
