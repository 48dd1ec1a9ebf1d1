import java.lang.reflect.InvocationTargetException;
import java.lang.reflect.Method;
import java.lang.reflect.Modifier;
import java.util.ArrayList;
import java.util.Arrays;
import java.util.HashMap;
import java.util.List;
import java.util.Map;
import java.util.Random;
import java.util.TreeMap;

/**
 * Draws long runs of calls, the same ones each time, and compares each answer with PlainRegister's.
 * With any argument it prints how often each kind of answer was due.
 */
public final class RandomRunsTest {
    private static final int RUNS = 400;
    private static final int CALLS = 512;
    private static final int[] EDGES = {Integer.MIN_VALUE, -1, 0, 1, 4, 6, 9, 1000, 1001, 5001, 1000000, 1000001,
        Integer.MAX_VALUE};
    private static final String[] BEFORE = {"issue", "place", "species", "factor", "link", "vessel", "sell", "unlink",
        "held"};
    private static final String[] OFTEN = {"land", "land", "land", "lease", "lease", "equivalent", "equivalent",
        "strike", "account", "event"};
    private static final String[] SELDOM = {"open", "end", "reopen", "reopen", "levy", "held", "about", "place", "sell",
        "species", "factor", "vessel", "link", "unlink", "issue"};

    private final Random random;
    private final QuotaRegister x = new QuotaRegister();
    private final PlainRegister plain = new PlainRegister();
    private final Map<String, Method> real = methods(QuotaRegister.class);
    private final Map<String, Method> model = methods(PlainRegister.class);
    private final List<String> calls = new ArrayList<>();
    private final int scale;

    private RandomRunsTest(int seed) {
        random = new Random(seed);
        scale = new int[] {60, 2000, 20000, 1000000}[seed % 4];
    }

    public static void main(String[] args) {
        Map<String, Integer> seen = new TreeMap<>();
        for (int seed = 1; seed <= RUNS; seed++) {
            RandomRunsTest test = new RandomRunsTest(seed);
            if (!test.run(seen)) {
                System.out.println("seed " + seed + ": the last answer of these is due: " + test.calls);
                System.exit(1);
            }
        }
        if (args.length > 0) {
            seen.forEach((what, times) -> System.out.println(what + ": " + times));
        }
    }

    private boolean run(Map<String, Integer> seen) {
        for (int i = 0; i < 24; i++) {
            int parts = 100000 + random.nextInt(66000);
            // Two vessels stay empty at first, so that they can change owners.
            int placed = i % 6 < 4 ? parts - random.nextInt(20000) : 0;
            if (!agree("issue", of(i / 6, i % 6, parts), seen)
                    || !agree("place", of(i / 6, i % 6, placed), seen)) {
                return false;
            }
        }
        int before = 60 + random.nextInt(20);
        for (int i = 48; i < CALLS; i++) {
            String name = i < before ? any(BEFORE) : nextCall();
            if (!agree(name, arguments(name), seen)) {
                return false;
            }
            if (i % 32 == 31 && !agreeOnAll(seen)) {
                return false;
            }
        }
        return true;
    }

    private boolean agree(String name, Object[] arguments, Map<String, Integer> seen) {
        String got = answer(real.get(name), x, arguments);
        String due = answer(model.get(name), plain, arguments);
        calls.add(name + Arrays.toString(arguments) + " " + due);
        seen.merge(name + (due.startsWith("class") ? " " + due : ""), 1, Integer::sum);
        if (!got.equals(due)) {
            System.out.println(name + Arrays.toString(arguments) + " answered " + got + ", due is " + due);
        }
        return got.equals(due);
    }

    private boolean agreeOnAll(Map<String, Integer> seen) {
        int length = calls.size();
        boolean same = agree("about", of(3), seen);
        for (int i = 0; i < 4 * 6 * 3; i++) {
            same &= agree("held", of(i / 18, i / 3 % 6, i % 3), seen);
        }
        for (int i = 0; i < plain.about(2); i++) {
            same &= agree("event", of(i, 2), seen);
        }
        for (int year = 1; year <= plain.about(0); year++) {
            for (int i = 0; i < 6 * 4 * 9; i++) {
                same &= agree("account", of(year, i / 36, i / 9 % 4, i % 9), seen);
            }
            for (int owner = 0; owner < 6; owner++) {
                same &= agree("levy", of(owner, year), seen);
            }
        }
        if (same) {
            calls.subList(length, calls.size()).clear();
        }
        return same;
    }

    private String nextCall() {
        boolean open = plain.about(1) == 1;
        if (random.nextInt(open ? 60 : 12) == 0) {
            return open ? "end" : "open";
        }
        return any(random.nextInt(4) == 0 ? SELDOM : OFTEN);
    }

    private String any(String[] names) {
        return names[random.nextInt(names.length)];
    }

    private static Map<String, Method> methods(Class<?> of) {
        Map<String, Method> methods = new HashMap<>();
        for (Method method : of.getDeclaredMethods()) {
            if (Modifier.isPublic(method.getModifiers())) {
                methods.put(method.getName(), method);
            }
        }
        return methods;
    }

    private static String answer(Method method, Object on, Object[] arguments) {
        try {
            return String.valueOf(method.invoke(on, arguments));
        } catch (InvocationTargetException e) {
            return e.getCause().getClass().toString();
        } catch (IllegalAccessException e) {
            throw new AssertionError(e);
        }
    }

    private Object[] arguments(String name) {
        Object[] arguments = fineArguments(name);
        if (arguments.length > 0 && random.nextInt(30) == 0) {
            int i = random.nextInt(arguments.length);
            if (arguments[i] instanceof Integer) {
                arguments[i] = EDGES[random.nextInt(EDGES.length)];
            }
        }
        return arguments;
    }

    private Object[] fineArguments(String name) {
        int s = random.nextInt(4);
        int a = random.nextInt(6);
        int b = (a + 1 + random.nextInt(5)) % 6;
        switch (name) {
            case "species":
                return of(s, 1 + random.nextInt(random.nextInt(4) > 0 ? 6 : 1000),
                        random.nextInt(3) == 0 ? random.nextInt(1000001) : 1000000);
            case "factor":
                return of(s, random.nextInt(3), random.nextInt(8) == 0 ? 0 : random.nextInt(5001));
            case "vessel":
            case "link":
            case "unlink":
                return of(a, b);
            case "issue":
                return of(s, a, near(100000));
            case "sell":
                return of(s, a, b, near(plain.held(s, a, 1)));
            case "place":
                int placed = plain.held(s, a, 0) - plain.held(s, a, 1);
                return of(s, a, random.nextInt(3) == 0 ? -near(placed) : near(plain.held(s, a, 1)));
            case "open":
                return of(limit(), limit(), limit(), limit());
            case "lease":
                return of(s, a, b, near(now(a, s, 5)));
            case "land":
                return new Object[] {year(), a, s, random.nextInt(3), kilogramsToLand(a, s), random.nextInt(4) == 0};
            case "equivalent":
                return equivalentArguments(a);
            case "strike":
                return of(plain.about(2) - random.nextInt(Math.min(12, plain.about(2) + 1)));
            case "reopen":
                return of(year());
            case "account":
                return of(year(), a, s, random.nextInt(9));
            case "levy":
                return of(a, year());
            case "held":
                return of(s, a, random.nextInt(3));
            case "event":
                return of(random.nextInt(plain.about(2) + 1), random.nextInt(4));
            case "about":
                return of(random.nextInt(4));
            default:
                return of();
        }
    }

    private static Object[] of(Integer... numbers) {
        return Arrays.copyOf(numbers, numbers.length, Object[].class);
    }

    private int limit() {
        return random.nextInt(scale + 1);
    }

    private int year() {
        int latest = plain.about(0);
        return random.nextInt(3) == 0 ? 1 + random.nextInt(Math.max(1, latest)) : Math.max(1, latest);
    }

    /** A number from 1 on, often just what there is, or one more. */
    private int near(int most) {
        int draw = random.nextInt(8);
        if (most <= 0 || draw == 0) {
            return 1 + random.nextInt(Math.max(1, scale / 8));
        }
        return draw == 1 ? most : draw == 2 ? most + 1 : 1 + random.nextInt(most);
    }

    /** A figure of an account of the latest year. */
    private int now(int v, int s, int what) {
        return plain.about(0) == 0 ? 0 : plain.account(plain.about(0), v, s, what);
    }

    private int kilogramsToLand(int v, int s) {
        return Math.min(1000000, Math.max(1, near(now(v, s, 5)) / (1 + random.nextInt(8))));
    }

    private Object[] equivalentArguments(int v) {
        int from = random.nextInt(4);
        for (int tries = 0; tries < 3 && now(v, from, 4) == 0; tries++) {
            from = (from + 1) % 4;
        }
        int to = (from + 1 + random.nextInt(3)) % 4;
        int most = Math.min(now(v, from, 4), now(v, to, 5));
        return of(v, from, to, Math.min(random.nextInt(3) == 0 ? 1000 : 400, near(most)));
    }
}
