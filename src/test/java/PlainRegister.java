import java.math.BigInteger;
import java.util.ArrayList;
import java.util.Comparator;
import java.util.HashSet;
import java.util.List;
import java.util.Set;

/**
 * A slow model of the register. It keeps only what was told, and derives every account from the
 * beginning of year 1 after every change, so that it can't forget to work anything anew.
 */
public final class PlainRegister {
    private static final BigInteger MILLION = BigInteger.valueOf(1000000);

    private record Told(int kind, int year, int vessel, int species, int other, int kg, int weight) { }

    private record Year(int[] limits, int[][] placed) { }

    private static final class Account {
        int allotted;
        int leased;
        int banked;
        int takenOff;
        int charged;
        int toBank;
        int advanced;
        int levied;

        int left() {
            return allotted + leased + banked - takenOff - charged;
        }
    }

    private static final class Derived {
        final Account[][][] accounts;
        final boolean[] counts;

        Derived(int years, int events) {
            accounts = new Account[years + 1][6][4];
            counts = new boolean[events];
        }
    }

    private final int[] values = {1, 1, 1, 1};
    private final int[] caps = {1000000, 1000000, 1000000, 1000000};
    private final int[][] factors = {{1000, 1000, 1000}, {1000, 1000, 1000}, {1000, 1000, 1000}, {1000, 1000, 1000}};
    private final int[] owners = {0, 1, 2, 3, 4, 5};
    private final Set<Set<Integer>> links = new HashSet<>();
    private final int[][] parts = new int[4][6];
    private final int[][] placed = new int[4][6];
    private final List<Year> years = new ArrayList<>();
    private final Set<Integer> takingChanges = new HashSet<>();
    private final List<Told> told = new ArrayList<>();
    private final Set<Integer> struck = new HashSet<>();
    private boolean someYearIsOpen = false;
    /** Null whenever something was told since. */
    private Derived derived = null;

    public void species(int s, int value, int cap) {
        argument(in(s, 0, 3) && in(value, 1, 1000) && in(cap, 0, 1000000));
        for (int owner = 0; owner < 6; owner++) {
            argument(groupHolds(s, owner) <= cap);
        }
        values[s] = value;
        caps[s] = cap;
    }

    public void factor(int s, int form, int thousandths) {
        argument(in(s, 0, 3) && in(form, 0, 2) && in(thousandths, 0, 5000));
        factors[s][form] = thousandths;
    }

    public void vessel(int v, int owner) {
        argument(in(v, 0, 5) && in(owner, 0, 5));
        for (int s = 0; s < 4; s++) {
            state(placed[s][v] == 0);
        }
        owners[v] = owner;
    }

    public void link(int a, int b) {
        argument(in(a, 0, 5) && in(b, 0, 5) && a != b);
        Set<Integer> pair = Set.of(a, b);
        boolean isNew = links.add(pair);
        if (someCapIsPassed()) {
            if (isNew) {
                links.remove(pair);
            }
            throw new IllegalStateException();
        }
    }

    public void unlink(int a, int b) {
        argument(in(a, 0, 5) && in(b, 0, 5) && a != b);
        state(links.remove(Set.of(a, b)));
    }

    public int issue(int s, int owner, int more) {
        argument(in(s, 0, 3) && in(owner, 0, 5) && in(more, 1, 1000000));
        state(years.isEmpty());
        int all = more;
        for (int p : parts[s]) {
            all += p;
        }
        state(all <= 1000000);
        parts[s][owner] += more;
        if (someCapIsPassed()) {
            parts[s][owner] -= more;
            throw new IllegalStateException();
        }
        return parts[s][owner];
    }

    public void sell(int s, int from, int to, int sold) {
        argument(in(s, 0, 3) && in(from, 0, 5) && in(to, 0, 5) && from != to && in(sold, 1, 1000000));
        state(free(s, from) >= sold);
        parts[s][from] -= sold;
        parts[s][to] += sold;
        if (someCapIsPassed()) {
            parts[s][from] += sold;
            parts[s][to] -= sold;
            throw new IllegalStateException();
        }
    }

    public int place(int s, int v, int more) {
        argument(in(s, 0, 3) && in(v, 0, 5));
        state(free(s, owners[v]) - (long) more >= 0);
        state(placed[s][v] + (long) more >= 0);
        placed[s][v] += more;
        return placed[s][v];
    }

    public int open(int l0, int l1, int l2, int l3) {
        int[] limits = {l0, l1, l2, l3};
        for (int limit : limits) {
            argument(in(limit, 0, 1000000));
        }
        state(!someYearIsOpen && years.size() < 8);
        int[][] then = new int[4][];
        for (int s = 0; s < 4; s++) {
            then[s] = placed[s].clone();
        }
        derived = null;
        years.add(new Year(limits, then));
        someYearIsOpen = true;
        takingChanges.add(years.size());
        return years.size();
    }

    public int end() {
        state(someYearIsOpen);
        derived = null;
        someYearIsOpen = false;
        takingChanges.remove(years.size());
        int levies = 0;
        for (Account[] row : derive().accounts[years.size()]) {
            for (Account account : row) {
                levies += account.levied > 0 ? 1 : 0;
            }
        }
        return levies;
    }

    public int lease(int s, int from, int to, int kg) {
        argument(in(s, 0, 3) && in(from, 0, 5) && in(to, 0, 5) && from != to && in(kg, 1, 1000000));
        state(someYearIsOpen);
        return tellIfItCounts(new Told(0, years.size(), from, s, to, kg, kg));
    }

    public int land(int year, int v, int s, int form, int kg, boolean undersized) {
        argument(in(year, 1, years.size()) && in(v, 0, 5) && in(s, 0, 3) && in(form, 0, 2) && in(kg, 1, 1000000));
        argument(factors[s][form] != 0);
        state(takingChanges.contains(year));
        long thousandths = (long) kg * factors[s][form];
        long live = thousandths / 1000 + (thousandths % 1000 >= 500 ? 1 : 0);
        long weight = undersized ? live / 2 + live % 2 : live;
        return tellIfItCounts(new Told(1, year, v, s, -1, kg, (int) weight));
    }

    public int equivalent(int v, int from, int to, int kg) {
        argument(in(v, 0, 5) && in(from, 0, 3) && in(to, 0, 3) && from != to && in(kg, 1, 1000));
        state(someYearIsOpen);
        int worth = kg * values[from];
        int weight = worth / values[to] + (worth % values[to] == 0 ? 0 : 1);
        return tellIfItCounts(new Told(2, years.size(), v, from, to, kg, weight));
    }

    public void strike(int event) {
        index(in(event, 0, told.size() - 1));
        state(told.get(event).kind == 1);
        state(takingChanges.contains(told.get(event).year));
        state(struck.add(event));
        derived = null;
    }

    public void reopen(int year) {
        argument(in(year, 1, years.size()));
        state(takingChanges.add(year));
    }

    public int account(int year, int v, int s, int what) {
        argument(in(year, 1, years.size()) && in(v, 0, 5) && in(s, 0, 3) && in(what, 0, 8));
        Account a = derive().accounts[year][v][s];
        int[] figures = {a.allotted, a.leased, a.banked, a.takenOff, a.charged, a.left(), a.toBank, a.advanced,
            a.levied};
        return figures[what];
    }

    public long levy(int owner, int year) {
        argument(in(owner, 0, 5) && in(year, 1, years.size()));
        long sum = 0;
        Account[][][] accounts = derive().accounts;
        for (int i = 0; i < 24; i++) {
            if (owners[i / 4] == owner) {
                sum += (long) accounts[year][i / 4][i % 4].levied * values[i % 4];
            }
        }
        return sum;
    }

    public int held(int s, int owner, int what) {
        argument(in(s, 0, 3) && in(owner, 0, 5) && in(what, 0, 2));
        return new int[] {parts[s][owner], free(s, owner), groupHolds(s, owner)}[what];
    }

    public int event(int i, int what) {
        index(in(i, 0, told.size() - 1));
        argument(in(what, 0, 3));
        Told t = told.get(i);
        return new int[] {t.kind, t.year, derive().counts[i] ? 1 : 0, t.weight}[what];
    }

    public int about(int what) {
        argument(in(what, 0, 3));
        int counting = 0;
        for (boolean counts : derive().counts) {
            counting += counts ? 1 : 0;
        }
        return new int[] {years.size(), someYearIsOpen ? 1 : 0, told.size(), counting}[what];
    }

    private static boolean in(long number, long least, long most) {
        return least <= number && number <= most;
    }

    private static void argument(boolean fine) {
        if (!fine) {
            throw new IllegalArgumentException();
        }
    }

    private static void state(boolean fine) {
        if (!fine) {
            throw new IllegalStateException();
        }
    }

    private static void index(boolean fine) {
        if (!fine) {
            throw new IndexOutOfBoundsException();
        }
    }

    private Set<Integer> group(int owner) {
        Set<Integer> group = new HashSet<>(Set.of(owner));
        boolean grown = true;
        while (grown) {
            grown = false;
            for (Set<Integer> pair : links) {
                for (int member : pair) {
                    if (group.contains(member)) {
                        grown |= group.addAll(pair);
                        break;
                    }
                }
            }
        }
        return group;
    }

    private int groupHolds(int s, int owner) {
        int sum = 0;
        for (int member : group(owner)) {
            sum += parts[s][member];
        }
        return sum;
    }

    private boolean someCapIsPassed() {
        for (int i = 0; i < 24; i++) {
            if (groupHolds(i / 6, i % 6) > caps[i / 6]) {
                return true;
            }
        }
        return false;
    }

    private int free(int s, int owner) {
        int free = parts[s][owner];
        for (int v = 0; v < 6; v++) {
            free -= owners[v] == owner ? placed[s][v] : 0;
        }
        return free;
    }

    private int tellIfItCounts(Told one) {
        state(told.size() < 200);
        derived = null;
        told.add(one);
        int number = told.size() - 1;
        if (!derive().counts[number]) {
            derived = null;
            told.remove(number);
            throw new IllegalStateException();
        }
        return number;
    }

    private Derived derive() {
        if (derived == null) {
            derived = deriveAll();
        }
        return derived;
    }

    private Derived deriveAll() {
        Derived all = new Derived(years.size(), told.size());
        for (int year = 1; year <= years.size(); year++) {
            for (int i = 0; i < 24; i++) {
                Account account = new Account();
                all.accounts[year][i / 4][i % 4] = account;
                if (year > 1) {
                    account.banked = all.accounts[year - 1][i / 4][i % 4].toBank;
                    account.takenOff = all.accounts[year - 1][i / 4][i % 4].advanced;
                }
            }
            allot(all, year);
            for (int i = 0; i < told.size(); i++) {
                if (told.get(i).year == year) {
                    all.counts[i] = work(all, i);
                }
            }
            if (year < years.size() || !someYearIsOpen) {
                close(all.accounts[year]);
            }
        }
        return all;
    }

    private void allot(Derived all, int year) {
        for (int s = 0; s < 4; s++) {
            BigInteger limit = BigInteger.valueOf(years.get(year - 1).limits[s]);
            int[] on = years.get(year - 1).placed[s];
            BigInteger onAll = BigInteger.ZERO;
            List<BigInteger[]> shares = new ArrayList<>();
            int missing = 0;
            for (int v = 0; v < 6; v++) {
                onAll = onAll.add(BigInteger.valueOf(on[v]));
                BigInteger[] split = limit.multiply(BigInteger.valueOf(on[v])).divideAndRemainder(MILLION);
                all.accounts[year][v][s].allotted = split[0].intValueExact();
                missing -= split[0].intValueExact();
                shares.add(new BigInteger[] {split[1], BigInteger.valueOf(v)});
            }
            missing += limit.multiply(onAll).divide(MILLION).intValueExact();
            Comparator<BigInteger[]> byRemainder = Comparator.comparing(share -> share[0].negate());
            shares.sort(byRemainder.thenComparing(share -> share[1]));
            for (int i = 0; i < missing; i++) {
                all.accounts[year][shares.get(i)[1].intValueExact()][s].allotted++;
            }
        }
    }

    private boolean work(Derived all, int number) {
        Told t = told.get(number);
        Account[][] book = all.accounts[t.year];
        Account first = book[t.vessel][t.species];
        if (t.kind == 0) {
            if (first.left() < t.kg) {
                return false;
            }
            first.leased -= t.kg;
            book[t.other][t.species].leased += t.kg;
            return true;
        }
        if (t.kind == 1) {
            if (struck.contains(number)) {
                return false;
            }
            first.charged += t.weight;
            return true;
        }
        Account second = book[t.vessel][t.other];
        if (first.charged < t.kg || second.left() < t.weight || movedBefore(all, number) + t.kg > 1000) {
            return false;
        }
        first.charged -= t.kg;
        second.charged += t.weight;
        return true;
    }

    private int movedBefore(Derived all, int number) {
        Told one = told.get(number);
        int moved = 0;
        for (int i = 0; i < number; i++) {
            Told t = told.get(i);
            if (t.kind == 2 && t.year == one.year && t.vessel == one.vessel && all.counts[i]) {
                moved += t.kg;
            }
        }
        return moved;
    }

    private static void close(Account[][] book) {
        for (Account[] row : book) {
            for (Account account : row) {
                int left = account.left();
                if (left >= 0) {
                    account.toBank = Math.min(account.allotted * 15 / 100, left);
                } else {
                    account.advanced = Math.min(account.allotted * 5 / 100, -left);
                    account.levied = -left - account.advanced;
                }
            }
        }
    }
}
