import java.util.Arrays;

/** A register of catch quotas. The promises that its methods keep are numbered in DOC.md. */
public final class QuotaRegister {
    /** There is none. */
    public static final int NONE = -1;

    private static final int SPECIES = 4;
    private static final int FORMS = 3;
    private static final int OWNERS = 6;
    private static final int VESSELS = 6;
    private static final int YEARS = 8;
    private static final int MOST_EVENTS = 200;
    private static final int MOST_VALUE = 1000;
    private static final int MOST_FACTOR = 5000;
    private static final int MOST_EXCHANGED = 1000;
    private static final int MILLION = 1000000;

    private static final int LEASE = 0;
    private static final int LANDING = 1;
    private static final int EQUIVALENT = 2;

    private final int[] values = new int[SPECIES];
    private final int[] factors = new int[SPECIES * FORMS];
    private final Shares shares = new Shares();
    private final Accounts accounts = new Accounts();
    private final Events events = new Events();
    private final boolean[] reopened = new boolean[YEARS + 1];
    private int latestYear = 0;
    private boolean latestIsOpen = false;

    public QuotaRegister() {
        Arrays.fill(values, 1);
        Arrays.fill(factors, 1000);
    }

    public void species(int s, int value, int cap) throws IllegalArgumentException {
        if (!isSpecies(s) || !isWithin(value, 1, MOST_VALUE) || !isWithin(cap, 0, MILLION)) {
            throw new IllegalArgumentException("no such species, value or cap");
        }
        if (shares.someGroupHoldsMore(s, cap)) {
            throw new IllegalArgumentException("a group holds more than the cap");
        }
        values[s] = value;
        shares.setCap(s, cap);
    }

    public void factor(int s, int form, int thousandths) throws IllegalArgumentException {
        if (!isSpecies(s) || !isForm(form) || !isWithin(thousandths, 0, MOST_FACTOR)) {
            throw new IllegalArgumentException("no such species, form or factor");
        }
        factors[s * FORMS + form] = thousandths;
    }

    public void vessel(int v, int owner) throws IllegalArgumentException, IllegalStateException {
        if (!isVessel(v) || !isOwner(owner)) {
            throw new IllegalArgumentException("no such vessel or owner");
        }
        if (shares.carriesParts(v)) {
            throw new IllegalStateException("parts are placed on the vessel");
        }
        shares.setOwner(v, owner);
    }

    public void link(int a, int b) throws IllegalArgumentException, IllegalStateException {
        if (!areTwoOwners(a, b)) {
            throw new IllegalArgumentException("not two owners");
        }
        if (shares.joinedWouldPassCap(a, b)) {
            throw new IllegalStateException("a group would pass a cap");
        }
        shares.join(a, b);
    }

    public void unlink(int a, int b) throws IllegalArgumentException, IllegalStateException {
        if (!areTwoOwners(a, b)) {
            throw new IllegalArgumentException("not two owners");
        }
        if (!shares.areJoined(a, b)) {
            throw new IllegalStateException("they are not linked with each other");
        }
        shares.part(a, b);
    }

    public int issue(int s, int owner, int parts) throws IllegalArgumentException, IllegalStateException {
        if (!isSpecies(s) || !isOwner(owner) || !isWithin(parts, 1, MILLION)) {
            throw new IllegalArgumentException("no such species, owner or parts");
        }
        if (latestYear > 0) {
            throw new IllegalStateException("a year was opened");
        }
        if (shares.partsInAll(s) + parts > MILLION || shares.groupWouldPassCap(s, owner, parts)) {
            throw new IllegalStateException("too many parts");
        }
        return shares.addParts(s, owner, parts);
    }

    public void sell(int s, int from, int to, int parts) throws IllegalArgumentException, IllegalStateException {
        if (!isSpecies(s) || !areTwoOwners(from, to) || !isWithin(parts, 1, MILLION)) {
            throw new IllegalArgumentException("no such species, owners or parts");
        }
        if (shares.freeParts(s, from) < parts) {
            throw new IllegalStateException("so many are not free");
        }
        if (!shares.inOneGroup(from, to) && shares.groupWouldPassCap(s, to, parts)) {
            throw new IllegalStateException("a cap would be passed");
        }
        shares.addParts(s, from, -parts);
        shares.addParts(s, to, parts);
    }

    public int place(int s, int v, int parts) throws IllegalArgumentException, IllegalStateException {
        if (!isSpecies(s) || !isVessel(v)) {
            throw new IllegalArgumentException("no such species or vessel");
        }
        if (parts > shares.freeParts(s, shares.ownerOf(v))) {
            throw new IllegalStateException("so many are not free");
        }
        if (parts < -shares.placedOn(s, v)) {
            throw new IllegalStateException("so many are not placed there");
        }
        return shares.addPlaced(s, v, parts);
    }

    public int open(int l0, int l1, int l2, int l3) throws IllegalArgumentException, IllegalStateException {
        if (!isLimit(l0) || !isLimit(l1) || !isLimit(l2) || !isLimit(l3)) {
            throw new IllegalArgumentException("no such limit");
        }
        if (latestIsOpen || latestYear >= YEARS) {
            throw new IllegalStateException("a year is open, or eight were");
        }
        latestYear++;
        latestIsOpen = true;
        accounts.allot(latestYear, 0, l0, shares);
        accounts.allot(latestYear, 1, l1, shares);
        accounts.allot(latestYear, 2, l2, shares);
        accounts.allot(latestYear, 3, l3, shares);
        accounts.begin(latestYear);
        return latestYear;
    }

    public int end() throws IllegalStateException {
        if (!latestIsOpen) {
            throw new IllegalStateException("no year is open");
        }
        latestIsOpen = false;
        accounts.settle(latestYear);
        return accounts.countLevied(latestYear);
    }

    public int lease(int s, int from, int to, int kg) throws IllegalArgumentException, IllegalStateException {
        if (!isSpecies(s) || !areTwoVessels(from, to) || !isWithin(kg, 1, MILLION)) {
            throw new IllegalArgumentException("no such species, vessels or kilograms");
        }
        if (!latestIsOpen || events.areFull()) {
            throw new IllegalStateException("no year is open, or there are 200 events");
        }
        if (!accounts.hasLeft(latestYear, from, s, kg)) {
            throw new IllegalStateException("so many are not left");
        }
        int told = events.add(LEASE, latestYear, from, s, to, kg, kg);
        events.work(told, accounts);
        return told;
    }

    public int land(int year, int v, int s, int form, int kg, boolean undersized)
            throws IllegalArgumentException, IllegalStateException {
        if (!wasOpened(year) || !isVessel(v) || !isSpecies(s) || !isForm(form) || !isWithin(kg, 1, MILLION)) {
            throw new IllegalArgumentException("no such year, vessel, species, form or kilograms");
        }
        int factor = factors[s * FORMS + form];
        if (factor == 0) {
            throw new IllegalArgumentException("there is no factor");
        }
        if (!takesChanges(year) || events.areFull()) {
            throw new IllegalStateException("the year is neither open nor reopened, or there are 200 events");
        }
        int told = events.add(LANDING, year, v, s, NONE, kg, liveWeight(kg, factor, undersized));
        workAnew(year);
        return told;
    }

    public int equivalent(int v, int from, int to, int kg) throws IllegalArgumentException, IllegalStateException {
        if (!isVessel(v) || !areTwoSpecies(from, to) || !isWithin(kg, 1, MOST_EXCHANGED)) {
            throw new IllegalArgumentException("no such vessel, species or kilograms");
        }
        if (!latestIsOpen || events.areFull()) {
            throw new IllegalStateException("no year is open, or there are 200 events");
        }
        int weight = equalWeight(kg, values[from], values[to]);
        if (!accounts.canExchange(latestYear, v, from, to, kg, weight)) {
            throw new IllegalStateException("it would not count");
        }
        int told = events.add(EQUIVALENT, latestYear, v, from, to, kg, weight);
        events.work(told, accounts);
        return told;
    }

    public void strike(int event) throws IndexOutOfBoundsException, IllegalStateException {
        if (!events.has(event)) {
            throw new IndexOutOfBoundsException("no such event");
        }
        if (!events.canBeStruck(event)) {
            throw new IllegalStateException("it is no landing, or was struck before");
        }
        int year = events.yearOf(event);
        if (!takesChanges(year)) {
            throw new IllegalStateException("its year is neither open nor reopened");
        }
        events.markStruck(event);
        workAnew(year);
    }

    public void reopen(int year) throws IllegalArgumentException, IllegalStateException {
        if (!wasOpened(year)) {
            throw new IllegalArgumentException("no such year");
        }
        if (takesChanges(year)) {
            throw new IllegalStateException("the year is open or reopened");
        }
        reopened[year] = true;
    }

    public int account(int year, int v, int s, int what) throws IllegalArgumentException {
        if (!wasOpened(year) || !isVessel(v) || !isSpecies(s) || !isWithin(what, 0, 8)) {
            throw new IllegalArgumentException("no such year, vessel, species or what");
        }
        return accounts.figure(Accounts.row(year, v, s), what);
    }

    public long levy(int owner, int year) throws IllegalArgumentException {
        if (!isOwner(owner) || !wasOpened(year)) {
            throw new IllegalArgumentException("no such owner or year");
        }
        long sum = 0;
        for (int v = 0; v < VESSELS; v++) {
            if (shares.ownerOf(v) == owner) {
                sum += levyOfVessel(v, year);
            }
        }
        return sum;
    }

    public int held(int s, int owner, int what) throws IllegalArgumentException {
        if (!isSpecies(s) || !isOwner(owner) || !isWithin(what, 0, 2)) {
            throw new IllegalArgumentException("no such species, owner or what");
        }
        switch (what) {
            case 0:
                return shares.partsOf(s, owner);
            case 1:
                return shares.freeParts(s, owner);
            default:
                return shares.partsOfGroup(s, shares.groupOf(owner));
        }
    }

    public int event(int i, int what) throws IndexOutOfBoundsException, IllegalArgumentException {
        if (!events.has(i)) {
            throw new IndexOutOfBoundsException("no such event");
        }
        if (!isWithin(what, 0, 3)) {
            throw new IllegalArgumentException("no such what");
        }
        return events.figure(i, what);
    }

    public int about(int what) throws IllegalArgumentException {
        switch (what) {
            case 0:
                return latestYear;
            case 1:
                return latestIsOpen ? 1 : 0;
            case 2:
                return events.size();
            case 3:
                return events.countCounting();
            default:
                throw new IllegalArgumentException("no such what");
        }
    }

    private static boolean isWithin(int number, int least, int most) {
        return number >= least && number <= most;
    }

    private static boolean isSpecies(int s) {
        return isWithin(s, 0, SPECIES - 1);
    }

    private static boolean areTwoSpecies(int a, int b) {
        return isSpecies(a) && isSpecies(b) && a != b;
    }

    private static boolean isForm(int form) {
        return isWithin(form, 0, FORMS - 1);
    }

    private static boolean isOwner(int owner) {
        return isWithin(owner, 0, OWNERS - 1);
    }

    private static boolean areTwoOwners(int a, int b) {
        return isOwner(a) && isOwner(b) && a != b;
    }

    private static boolean isVessel(int v) {
        return isWithin(v, 0, VESSELS - 1);
    }

    private static boolean areTwoVessels(int a, int b) {
        return isVessel(a) && isVessel(b) && a != b;
    }

    private static boolean isLimit(int kg) {
        return isWithin(kg, 0, MILLION);
    }

    private boolean wasOpened(int year) {
        return isWithin(year, 1, latestYear);
    }

    private boolean isOpen(int year) {
        return latestIsOpen && year == latestYear;
    }

    private boolean takesChanges(int year) {
        return isOpen(year) || reopened[year];
    }

    private static int liveWeight(int kg, int factor, boolean undersized) {
        // Up to 5000000000 before the division: more than an int holds.
        int live = (int) (((long) kg * factor + 500) / 1000);
        return undersized ? (live + 1) / 2 : live;
    }

    private static int equalWeight(int kg, int valueFrom, int valueTo) {
        return (kg * valueFrom + valueTo - 1) / valueTo;
    }

    /** A change in one year moves what the next one gets from it, and so on to the latest. */
    private void workAnew(int fromYear) {
        for (int year = fromYear; year <= latestYear; year++) {
            accounts.begin(year);
            events.workYear(year, accounts);
            if (!isOpen(year)) {
                accounts.settle(year);
            }
        }
    }

    private long levyOfVessel(int v, int year) {
        long sum = 0;
        for (int s = 0; s < SPECIES; s++) {
            sum += (long) accounts.leviedOn(year, v, s) * values[s];
        }
        return sum;
    }

    /** Who holds which parts, where they are placed, and who hangs together with whom. */
    private static final class Shares {
        private static final int ALL_OWNERS = (1 << OWNERS) - 1;

        private final int[] caps = new int[SPECIES];
        /** For each owner the set of those linked with them, a bit each; all groups are such sets too. */
        private final int[] links = new int[OWNERS];
        private final int[] vesselOwners = new int[VESSELS];
        private final int[] parts = new int[SPECIES * OWNERS];
        private final int[] placed = new int[SPECIES * VESSELS];

        Shares() {
            Arrays.fill(caps, MILLION);
            for (int v = 0; v < VESSELS; v++) {
                vesselOwners[v] = v;
            }
        }

        void setCap(int s, int cap) {
            caps[s] = cap;
        }

        void setOwner(int v, int owner) {
            vesselOwners[v] = owner;
        }

        int ownerOf(int v) {
            return vesselOwners[v];
        }

        void join(int a, int b) {
            links[a] |= 1 << b;
            links[b] |= 1 << a;
        }

        void part(int a, int b) {
            links[a] &= ~(1 << b);
            links[b] &= ~(1 << a);
        }

        boolean areJoined(int a, int b) {
            return (links[a] & (1 << b)) != 0;
        }

        boolean inOneGroup(int a, int b) {
            return (groupOf(a) & (1 << b)) != 0;
        }

        int groupOf(int owner) {
            int group = 1 << owner;
            // Each round goes at least one link further, and no two owners are further apart than this.
            for (int round = 1; round < OWNERS; round++) {
                for (int o = 0; o < OWNERS; o++) {
                    if ((group & (1 << o)) != 0) {
                        group |= links[o];
                    }
                }
            }
            return group;
        }

        int partsOf(int s, int owner) {
            return parts[s * OWNERS + owner];
        }

        int partsOfGroup(int s, int group) {
            int sum = 0;
            for (int o = 0; o < OWNERS; o++) {
                if ((group & (1 << o)) != 0) {
                    sum += partsOf(s, o);
                }
            }
            return sum;
        }

        int partsInAll(int s) {
            return partsOfGroup(s, ALL_OWNERS);
        }

        int addParts(int s, int owner, int more) {
            parts[s * OWNERS + owner] += more;
            return partsOf(s, owner);
        }

        int placedOn(int s, int v) {
            return placed[s * VESSELS + v];
        }

        int addPlaced(int s, int v, int more) {
            placed[s * VESSELS + v] += more;
            return placedOn(s, v);
        }

        boolean carriesParts(int v) {
            for (int s = 0; s < SPECIES; s++) {
                if (placedOn(s, v) > 0) {
                    return true;
                }
            }
            return false;
        }

        int freeParts(int s, int owner) {
            int free = partsOf(s, owner);
            for (int v = 0; v < VESSELS; v++) {
                if (vesselOwners[v] == owner) {
                    free -= placedOn(s, v);
                }
            }
            return free;
        }

        boolean someGroupHoldsMore(int s, int cap) {
            for (int o = 0; o < OWNERS; o++) {
                if (partsOfGroup(s, groupOf(o)) > cap) {
                    return true;
                }
            }
            return false;
        }

        boolean groupWouldPassCap(int s, int owner, int more) {
            return partsOfGroup(s, groupOf(owner)) + more > caps[s];
        }

        boolean joinedWouldPassCap(int a, int b) {
            int group = groupOf(a) | groupOf(b);
            for (int s = 0; s < SPECIES; s++) {
                if (partsOfGroup(s, group) > caps[s]) {
                    return true;
                }
            }
            return false;
        }
    }

    /** The accounts of all years, one row for each year, vessel and species. */
    private static final class Accounts {
        private static final int ROWS_A_YEAR = VESSELS * SPECIES;
        /** Year 0 has rows too, always empty, so that year 1 takes over nothing without being asked for. */
        private static final int ROWS = (YEARS + 1) * ROWS_A_YEAR;

        private final int[] allotted = new int[ROWS];
        private final int[] leased = new int[ROWS];
        private final int[] banked = new int[ROWS];
        private final int[] takenOff = new int[ROWS];
        private final int[] charged = new int[ROWS];
        private final int[] toBank = new int[ROWS];
        private final int[] advanced = new int[ROWS];
        private final int[] levied = new int[ROWS];
        /** The kilograms of the equivalents that count, for each year and vessel. */
        private final int[] exchanged = new int[(YEARS + 1) * VESSELS];
        private final int[] remainders = new int[VESSELS];

        static int row(int year, int v, int s) {
            return (year * VESSELS + v) * SPECIES + s;
        }

        void allot(int year, int s, int limit, Shares shares) {
            long exactInAll = 0;
            int given = 0;
            for (int v = 0; v < VESSELS; v++) {
                long exact = (long) limit * shares.placedOn(s, v);
                int whole = (int) (exact / MILLION);
                allotted[row(year, v, s)] = whole;
                remainders[v] = (int) (exact % MILLION);
                exactInAll += exact;
                given += whole;
            }
            int inAll = (int) (exactInAll / MILLION);
            for (int kg = given; kg < inAll; kg++) {
                int v = greatestRemainder();
                allotted[row(year, v, s)]++;
                remainders[v] = NONE;
            }
        }

        private int greatestRemainder() {
            int greatest = 0;
            for (int v = 1; v < VESSELS; v++) {
                if (remainders[v] > remainders[greatest]) {
                    greatest = v;
                }
            }
            return greatest;
        }

        /** Leaves a year nothing but allotted, banked and taken off. */
        void begin(int year) {
            int first = row(year, 0, 0);
            for (int i = first; i < first + ROWS_A_YEAR; i++) {
                leased[i] = 0;
                charged[i] = 0;
                banked[i] = toBank[i - ROWS_A_YEAR];
                takenOff[i] = advanced[i - ROWS_A_YEAR];
            }
            for (int v = 0; v < VESSELS; v++) {
                exchanged[year * VESSELS + v] = 0;
            }
        }

        void settle(int year) {
            int first = row(year, 0, 0);
            for (int i = first; i < first + ROWS_A_YEAR; i++) {
                int left = leftOn(i);
                int over = Math.max(0, -left);
                toBank[i] = Math.min(allotted[i] * 15 / 100, Math.max(0, left));
                advanced[i] = Math.min(allotted[i] * 5 / 100, over);
                levied[i] = over - advanced[i];
            }
        }

        int countLevied(int year) {
            int count = 0;
            int first = row(year, 0, 0);
            for (int i = first; i < first + ROWS_A_YEAR; i++) {
                if (levied[i] > 0) {
                    count++;
                }
            }
            return count;
        }

        int leviedOn(int year, int v, int s) {
            return levied[row(year, v, s)];
        }

        boolean hasLeft(int year, int v, int s, int kg) {
            return leftOn(row(year, v, s)) >= kg;
        }

        boolean canExchange(int year, int v, int from, int to, int kg, int weight) {
            return charged[row(year, v, from)] >= kg
                    && hasLeft(year, v, to, weight)
                    && exchanged[year * VESSELS + v] + kg <= MOST_EXCHANGED;
        }

        void moveLeased(int year, int s, int from, int to, int kg) {
            leased[row(year, from, s)] -= kg;
            leased[row(year, to, s)] += kg;
        }

        void charge(int year, int v, int s, int kg) {
            charged[row(year, v, s)] += kg;
        }

        void exchange(int year, int v, int from, int to, int kg, int weight) {
            charged[row(year, v, from)] -= kg;
            charged[row(year, v, to)] += weight;
            exchanged[year * VESSELS + v] += kg;
        }

        int figure(int i, int what) {
            switch (what) {
                case 0:
                    return allotted[i];
                case 1:
                    return leased[i];
                case 2:
                    return banked[i];
                case 3:
                    return takenOff[i];
                case 4:
                    return charged[i];
                case 5:
                    return leftOn(i);
                case 6:
                    return toBank[i];
                case 7:
                    return advanced[i];
                default:
                    return levied[i];
            }
        }

        private int leftOn(int i) {
            return allotted[i] + leased[i] + banked[i] - takenOff[i] - charged[i];
        }
    }

    /** All that was told, in the order in which it was. */
    private static final class Events {
        private final int[] kinds = new int[MOST_EVENTS];
        private final int[] years = new int[MOST_EVENTS];
        private final int[] vessels = new int[MOST_EVENTS];
        private final int[] species = new int[MOST_EVENTS];
        /** The other vessel of a lease, the other species of an equivalent, NONE for a landing. */
        private final int[] others = new int[MOST_EVENTS];
        private final int[] kilograms = new int[MOST_EVENTS];
        /** What is charged or leased, by the factor and the values of the time when it was told. */
        private final int[] weights = new int[MOST_EVENTS];
        private final boolean[] struck = new boolean[MOST_EVENTS];
        private final boolean[] counting = new boolean[MOST_EVENTS];
        private int count = 0;

        int size() {
            return count;
        }

        boolean areFull() {
            return count >= MOST_EVENTS;
        }

        boolean has(int i) {
            return isWithin(i, 0, count - 1);
        }

        /** The caller has seen that there is room; the event counts from when it is worked. */
        int add(int kind, int year, int v, int s, int other, int kg, int weight) {
            int told = count;
            kinds[told] = kind;
            years[told] = year;
            vessels[told] = v;
            species[told] = s;
            others[told] = other;
            kilograms[told] = kg;
            weights[told] = weight;
            count++;
            return told;
        }

        int yearOf(int i) {
            return years[i];
        }

        boolean canBeStruck(int i) {
            return kinds[i] == LANDING && !struck[i];
        }

        void markStruck(int i) {
            struck[i] = true;
        }

        void workYear(int year, Accounts accounts) {
            for (int i = 0; i < count; i++) {
                if (years[i] == year) {
                    work(i, accounts);
                }
            }
        }

        void work(int i, Accounts accounts) {
            switch (kinds[i]) {
                case LEASE:
                    counting[i] = workLease(i, accounts);
                    break;
                case LANDING:
                    counting[i] = workLanding(i, accounts);
                    break;
                default:
                    counting[i] = workEquivalent(i, accounts);
                    break;
            }
        }

        private boolean workLease(int i, Accounts accounts) {
            if (!accounts.hasLeft(years[i], vessels[i], species[i], weights[i])) {
                return false;
            }
            accounts.moveLeased(years[i], species[i], vessels[i], others[i], weights[i]);
            return true;
        }

        private boolean workLanding(int i, Accounts accounts) {
            if (struck[i]) {
                return false;
            }
            accounts.charge(years[i], vessels[i], species[i], weights[i]);
            return true;
        }

        private boolean workEquivalent(int i, Accounts accounts) {
            if (!accounts.canExchange(years[i], vessels[i], species[i], others[i], kilograms[i], weights[i])) {
                return false;
            }
            accounts.exchange(years[i], vessels[i], species[i], others[i], kilograms[i], weights[i]);
            return true;
        }

        int countCounting() {
            int sum = 0;
            for (int i = 0; i < count; i++) {
                if (counting[i]) {
                    sum++;
                }
            }
            return sum;
        }

        int figure(int i, int what) {
            switch (what) {
                case 0:
                    return kinds[i];
                case 1:
                    return years[i];
                case 2:
                    return counting[i] ? 1 : 0;
                default:
                    return weights[i];
            }
        }
    }
}
