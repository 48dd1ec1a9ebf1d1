import java.util.ArrayList;
import java.util.List;
import java.util.Map;
import java.util.Random;
import java.util.TreeMap;

/**
 * Draws runs of calls, the same ones each time, and compares each answer with PlainRegister's; then all
 * that a register can be asked for. With any argument it prints how often each kind of answer was due.
 */
public final class RandomRunsTest {
    private static final int RUNS = 600;
    private static final int MOST_CALLS = 512;
    private static final int[] EDGES = {Integer.MIN_VALUE, -1, 0, 1, 4, 6, 9, 1000, 1001, 5001, 1000000, 1000001,
        Integer.MAX_VALUE};
    private static final String[] BEFORE = {"issue", "place", "species", "factor", "link", "vessel", "sell", "unlink",
        "held"};
    private static final String[] OFTEN = {"land", "land", "land", "lease", "lease", "equivalent", "equivalent",
        "strike", "account", "event"};
    private static final String[] SELDOM = {"open", "end", "reopen", "reopen", "levy", "held", "about", "place", "sell",
        "species", "factor", "vessel", "link", "unlink", "issue"};

    private final Random random;
    private final QuotaRegister x = new QuotaRegister();
    private final PlainRegister plain = new PlainRegister();
    private final List<Call> calls = new ArrayList<>();
    private final Map<String, Integer> seen;
    private final int scale;

    private RandomRunsTest(int seed, Map<String, Integer> seen) {
        random = new Random(seed);
        scale = new int[] {60, 2000, 20000, 1000000}[seed % 4];
        this.seen = seen;
    }

    public static void main(String[] args) {
        Map<String, Integer> seen = new TreeMap<>();
        for (int seed = 1; seed <= RUNS; seed++) {
            RandomRunsTest test = new RandomRunsTest(seed, seen);
            if (!test.run() || !test.agreesOnAll()) {
                System.out.println("seed " + seed + ", behind these calls: " + test.calls);
                System.exit(1);
            }
        }
        if (args.length > 0) {
            seen.forEach((what, times) -> System.out.println(what + ": " + times));
        }
    }

    private boolean run() {
        for (int i = 0; i < 24; i++) {
            int parts = 100000 + random.nextInt(66000);
            // Two vessels stay empty at first, so that they can change owners.
            int placed = i % 6 < 4 ? parts - random.nextInt(20000) : 0;
            if (!agrees("issue", i / 6, i % 6, parts) || !agrees("place", i / 6, i % 6, placed)) {
                return false;
            }
        }
        int before = 60 + random.nextInt(20);
        // Some calls stay for questions.
        int all = 80 + random.nextInt(MOST_CALLS - 100);
        while (calls.size() < all) {
            String name = calls.size() < before ? any(BEFORE) : nextCall();
            if (!agrees(name, arguments(name))) {
                return false;
            }
        }
        return true;
    }

    private boolean agrees(String name, Object... arguments) {
        Call call = Call.of(name, arguments);
        boolean same = same(call, x);
        calls.add(call);
        return same;
    }

    private boolean same(Call call, QuotaRegister register) {
        String got = call.on(register);
        String due = call.on(plain);
        seen.merge(call.toString().replaceAll("\\(.*", "") + (due.startsWith("throws") ? " " + due : ""), 1,
                Integer::sum);
        if (!got.equals(due)) {
            System.out.println(call + " answered " + got + ", due is " + due);
        }
        return got.equals(due);
    }

    /** No object is good for so many questions, so others are made with the same calls. */
    private boolean agreesOnAll() {
        QuotaRegister asked = x;
        int made = calls.size();
        for (Call question : questions()) {
            if (made == MOST_CALLS) {
                asked = sameAgain();
                made = calls.size();
            }
            made++;
            if (!same(question, asked)) {
                return false;
            }
        }
        return true;
    }

    private QuotaRegister sameAgain() {
        QuotaRegister again = new QuotaRegister();
        for (Call call : calls) {
            call.on(again);
        }
        return again;
    }

    private List<Call> questions() {
        List<Call> questions = new ArrayList<>();
        for (int what = 0; what < 4; what++) {
            questions.add(Call.of("about", what));
        }
        for (int i = 0; i < 4 * 6 * 3; i++) {
            questions.add(Call.of("held", i / 18, i / 3 % 6, i % 3));
        }
        for (int i = 0; i < plain.about(2) * 4; i++) {
            questions.add(Call.of("event", i / 4, i % 4));
        }
        for (int year = 1; year <= plain.about(0); year++) {
            for (int i = 0; i < 6 * 4 * 9; i++) {
                questions.add(Call.of("account", year, i / 36, i / 9 % 4, i % 9));
            }
            for (int owner = 0; owner < 6; owner++) {
                questions.add(Call.of("levy", owner, year));
            }
        }
        return questions;
    }

    private String nextCall() {
        boolean open = plain.about(1) == 1;
        if (random.nextInt(open ? 60 : 12) == 0) {
            return open ? "end" : "open";
        }
        return any(random.nextInt(4) == 0 ? SELDOM : OFTEN);
    }

    private String any(String[] names) {
        return names[random.nextInt(names.length)];
    }

    private Object[] arguments(String name) {
        Object[] arguments = fineArguments(name);
        if (arguments.length > 0 && random.nextInt(30) == 0) {
            int i = random.nextInt(arguments.length);
            if (arguments[i] instanceof Integer) {
                arguments[i] = EDGES[random.nextInt(EDGES.length)];
            }
        }
        return arguments;
    }

    private Object[] fineArguments(String name) {
        int s = random.nextInt(4);
        int a = random.nextInt(6);
        int b = (a + 1 + random.nextInt(5)) % 6;
        switch (name) {
            case "species":
                return of(s, 1 + random.nextInt(random.nextInt(4) > 0 ? 6 : 1000),
                        random.nextInt(3) == 0 ? random.nextInt(1000001) : 1000000);
            case "factor":
                return of(s, random.nextInt(3), random.nextInt(8) == 0 ? 0 : random.nextInt(5001));
            case "vessel":
            case "link":
            case "unlink":
                return of(a, b);
            case "issue":
                return of(s, a, near(100000));
            case "sell":
                return of(s, a, b, near(plain.held(s, a, 1)));
            case "place":
                int placed = plain.held(s, a, 0) - plain.held(s, a, 1);
                return of(s, a, random.nextInt(3) == 0 ? -near(placed) : near(plain.held(s, a, 1)));
            case "open":
                return of(limit(), limit(), limit(), limit());
            case "lease":
                return of(s, a, b, near(now(a, s, 5)));
            case "land":
                return of(year(), a, s, random.nextInt(3), kilogramsToLand(a, s), random.nextInt(4) == 0);
            case "equivalent":
                return equivalentArguments(a);
            case "strike":
                return of(plain.about(2) - random.nextInt(Math.min(12, plain.about(2) + 1)));
            case "reopen":
                return of(year());
            case "account":
                return of(year(), a, s, random.nextInt(9));
            case "levy":
                return of(a, year());
            case "held":
                return of(s, a, random.nextInt(3));
            case "event":
                return of(random.nextInt(plain.about(2) + 1), random.nextInt(4));
            case "about":
                return of(random.nextInt(4));
            default:
                return of();
        }
    }

    private static Object[] of(Object... arguments) {
        return arguments;
    }

    private int limit() {
        return random.nextInt(scale + 1);
    }

    private int year() {
        int latest = plain.about(0);
        return random.nextInt(3) == 0 ? 1 + random.nextInt(Math.max(1, latest)) : Math.max(1, latest);
    }

    /** A number from 1 on, often just what there is, or one more. */
    private int near(int most) {
        int draw = random.nextInt(8);
        if (most <= 0 || draw == 0) {
            return 1 + random.nextInt(Math.max(1, scale / 8));
        }
        return draw == 1 ? most : draw == 2 ? most + 1 : 1 + random.nextInt(most);
    }

    /** A figure of an account of the latest year. */
    private int now(int v, int s, int what) {
        return plain.about(0) == 0 ? 0 : plain.account(plain.about(0), v, s, what);
    }

    private int kilogramsToLand(int v, int s) {
        return Math.min(1000000, Math.max(1, near(now(v, s, 5)) / (1 + random.nextInt(8))));
    }

    private Object[] equivalentArguments(int v) {
        int from = random.nextInt(4);
        for (int tries = 0; tries < 3 && now(v, from, 4) == 0; tries++) {
            from = (from + 1) % 4;
        }
        int to = (from + 1 + random.nextInt(3)) % 4;
        int most = Math.min(now(v, from, 4), now(v, to, 5));
        return of(v, from, to, Math.min(random.nextInt(3) == 0 ? 1000 : 400, near(most)));
    }
}
