/** Promises 12 to 14, 20 and 21: leases, landings, equivalents, and what is told of them. */
public final class EventsTest {
    private static final int MIN = Integer.MIN_VALUE;
    private static final int MAX = Integer.MAX_VALUE;

    private static final int LEASED = 1;
    private static final int CHARGED = 4;
    private static final int LEFT = 5;

    public static void main(String[] args) {
        Check check = new Check();
        promise12Lease(check);
        promise12LeaseOfBankedAndTakenOff(check);
        promise13Land(check);
        promise13LiveWeight(check);
        promise13FactorOfTheTime(check);
        promise14Equivalent(check);
        promise14ChargedUp(check);
        promise14ValuesOfTheTime(check);
        promise14AtMost1000AVesselAndYear(check);
        promise14NeedsChargedAndLeft(check);
        promises12To14At200Events(check);
        promise20Event(check);
        promise21About(check);
        check.finish();
    }

    /** Year 1 is open; each of the first four vessels has 2000 kilograms of each species. */
    private static QuotaRegister opened() {
        QuotaRegister x = new QuotaRegister();
        for (int s = 0; s < 4; s++) {
            for (int v = 0; v < 4; v++) {
                x.issue(s, v, 250000);
                x.place(s, v, 250000);
            }
        }
        x.open(8000, 8000, 8000, 8000);
        return x;
    }

    private static void promise12Lease(Check check) {
        QuotaRegister y = new QuotaRegister();
        check.state(() -> y.lease(0, 0, 1, 1));
        check.argument(() -> y.lease(0, 0, 1, 0));
        QuotaRegister x = opened();
        check.argument(() -> x.lease(-1, 0, 1, 5));
        check.argument(() -> x.lease(4, 0, 1, 5));
        check.argument(() -> x.lease(0, -1, 1, 5));
        check.argument(() -> x.lease(0, 6, 1, 5));
        check.argument(() -> x.lease(0, 0, -1, 5));
        check.argument(() -> x.lease(0, 0, 6, 5));
        check.argument(() -> x.lease(0, 2, 2, 5));
        check.argument(() -> x.lease(0, 0, 1, 0));
        check.argument(() -> x.lease(0, 0, 1, -5));
        check.argument(() -> x.lease(0, 0, 1, 1000001));
        check.argument(() -> x.lease(MIN, MAX, MIN, MAX));
        check.state(() -> x.lease(3, 0, 5, 1000000));
        check.state(() -> x.lease(3, 0, 5, 2001));
        check.due(0, x.lease(3, 0, 5, 1500));
        check.due(-1500, x.account(1, 0, 3, LEASED));
        check.due(1500, x.account(1, 5, 3, LEASED));
        check.due(500, x.account(1, 0, 3, LEFT));
        check.due(2000, x.account(1, 0, 0, LEFT));
        check.state(() -> x.lease(3, 0, 1, 501));
        check.due(1, x.lease(3, 0, 1, 500));
        check.due(2, x.lease(3, 5, 1, 1));
        check.due(1499, x.account(1, 5, 3, LEASED));
        check.due(2501, x.account(1, 1, 3, LEFT));
        check.due(3, x.lease(3, 1, 0, 2501));
        check.due(501, x.account(1, 0, 3, LEASED));
        // What is charged is not left.
        x.land(1, 2, 0, 0, 1990, false);
        check.state(() -> x.lease(0, 2, 0, 11));
        check.due(5, x.lease(0, 2, 0, 10));
        check.state(() -> x.lease(0, 2, 0, 1));
        x.end();
        check.state(() -> x.lease(3, 1, 0, 1));
        x.reopen(1);
        check.state(() -> x.lease(3, 1, 0, 1));
        check.argument(() -> x.lease(3, 1, 1, 1));
    }

    private static void promise12LeaseOfBankedAndTakenOff(Check check) {
        QuotaRegister x = opened();
        x.land(1, 1, 0, 0, 2100, false);
        x.end();
        x.open(8000, 0, 0, 0);
        check.state(() -> x.lease(0, 0, 5, 2301));
        check.due(1, x.lease(0, 0, 5, 2300));
        check.state(() -> x.lease(0, 1, 5, 1901));
        check.due(2, x.lease(0, 1, 5, 1900));
        check.due(2, x.event(1, 1));
    }

    private static void promise13Land(Check check) {
        QuotaRegister y = new QuotaRegister();
        check.argument(() -> y.land(0, 0, 0, 0, 1, false));
        check.argument(() -> y.land(1, 0, 0, 0, 1, false));
        QuotaRegister x = opened();
        check.argument(() -> x.land(0, 0, 0, 0, 1, false));
        check.argument(() -> x.land(-1, 0, 0, 0, 1, false));
        check.argument(() -> x.land(2, 0, 0, 0, 1, false));
        check.argument(() -> x.land(9, 0, 0, 0, 1, false));
        check.argument(() -> x.land(1, -1, 0, 0, 1, false));
        check.argument(() -> x.land(1, 6, 0, 0, 1, false));
        check.argument(() -> x.land(1, 0, -1, 0, 1, false));
        check.argument(() -> x.land(1, 0, 4, 0, 1, false));
        check.argument(() -> x.land(1, 0, 0, -1, 1, false));
        check.argument(() -> x.land(1, 0, 0, 3, 1, false));
        check.argument(() -> x.land(1, 0, 0, 0, 0, false));
        check.argument(() -> x.land(1, 0, 0, 0, -1, true));
        check.argument(() -> x.land(1, 0, 0, 0, 1000001, false));
        check.argument(() -> x.land(MAX, MIN, MAX, MIN, MAX, true));
        check.due(0, x.land(1, 0, 0, 0, 1, false));
        check.due(1, x.land(1, 5, 3, 2, 1000000, false));
        check.due(2, x.land(1, 0, 0, 1, 2, false));
        check.due(3, x.account(1, 0, 0, CHARGED));
        check.due(1997, x.account(1, 0, 0, LEFT));
        check.due(1000000, x.account(1, 5, 3, CHARGED));
        check.due(-1000000, x.account(1, 5, 3, LEFT));
        x.end();
        check.state(() -> x.land(1, 0, 0, 0, 1, false));
        // No factor, or no such year, comes before what state the year is in.
        x.factor(2, 1, 0);
        check.argument(() -> x.land(1, 0, 2, 1, 1, false));
        check.argument(() -> x.land(2, 0, 0, 0, 1, false));
        x.open(0, 0, 0, 0);
        check.state(() -> x.land(1, 0, 0, 0, 1, false));
        check.due(3, x.land(2, 0, 0, 0, 1, false));
        check.due(3, x.account(1, 0, 0, CHARGED));
        check.due(1, x.account(2, 0, 0, CHARGED));
    }

    private static void promise13LiveWeight(Check check) {
        QuotaRegister x = opened();
        // factor, kilograms, live weight, the same of undersized fish
        int[][] rows = {
            {1000, 1, 1, 1},
            {1000, 2, 2, 1},
            {1000, 3, 3, 2},
            {1, 1, 0, 0},
            {1, 499, 0, 0},
            {1, 500, 1, 1},
            {1, 1499, 1, 1},
            {1, 1500, 2, 1},
            {1235, 100, 124, 62},
            {1235, 98, 121, 61},
            {1499, 1, 1, 1},
            {1500, 1, 2, 1},
            {2500, 1, 3, 2},
            {2499, 1, 2, 1},
            {5000, 1000000, 5000000, 2500000},
            {4999, 999999, 4998995, 2499498},
        };
        for (int[] row : rows) {
            x.factor(2, 1, row[0]);
            check.due(row[2], x.event(x.land(1, 4, 2, 1, row[1], false), 3));
            check.due(row[3], x.event(x.land(1, 4, 2, 1, row[1], true), 3));
        }
        int sum = 0;
        for (int[] row : rows) {
            sum += row[2] + row[3];
        }
        check.due(sum, x.account(1, 4, 2, CHARGED));
    }

    private static void promise13FactorOfTheTime(Check check) {
        QuotaRegister x = opened();
        x.factor(0, 0, 2000);
        x.land(1, 0, 0, 0, 100, false);
        x.factor(0, 0, 0);
        x.land(1, 0, 0, 1, 5, false);
        x.end();
        x.reopen(1);
        x.land(1, 0, 0, 2, 7, false);
        check.due(212, x.account(1, 0, 0, CHARGED));
        check.due(200, x.event(0, 3));
    }

    private static void promise14Equivalent(Check check) {
        QuotaRegister y = new QuotaRegister();
        check.state(() -> y.equivalent(0, 0, 1, 1));
        check.argument(() -> y.equivalent(0, 1, 1, 1));
        QuotaRegister x = opened();
        x.land(1, 0, 0, 0, 1500, false);
        check.argument(() -> x.equivalent(-1, 0, 1, 5));
        check.argument(() -> x.equivalent(6, 0, 1, 5));
        check.argument(() -> x.equivalent(0, -1, 1, 5));
        check.argument(() -> x.equivalent(0, 4, 1, 5));
        check.argument(() -> x.equivalent(0, 0, -1, 5));
        check.argument(() -> x.equivalent(0, 0, 4, 5));
        check.argument(() -> x.equivalent(0, 0, 0, 5));
        check.argument(() -> x.equivalent(0, 0, 1, 0));
        check.argument(() -> x.equivalent(0, 0, 1, -5));
        check.argument(() -> x.equivalent(0, 0, 1, 1001));
        check.argument(() -> x.equivalent(MIN, MAX, MIN, MAX));
        check.due(1, x.equivalent(0, 0, 3, 400));
        check.due(1100, x.account(1, 0, 0, CHARGED));
        check.due(400, x.account(1, 0, 3, CHARGED));
        check.due(900, x.account(1, 0, 0, LEFT));
        check.due(1600, x.account(1, 0, 3, LEFT));
        check.due(0, x.account(1, 0, 0, LEASED));
        // Back again, of what came by an equivalent.
        check.due(2, x.equivalent(0, 3, 0, 400));
        check.due(1500, x.account(1, 0, 0, CHARGED));
        check.due(0, x.account(1, 0, 3, CHARGED));
        check.due(2, x.event(2, 0));
        x.end();
        check.state(() -> x.equivalent(0, 0, 1, 1));
        x.reopen(1);
        check.state(() -> x.equivalent(0, 0, 1, 1));
        check.argument(() -> x.equivalent(0, 1, 1, 1));
    }

    private static void promise14ChargedUp(Check check) {
        QuotaRegister x = opened();
        x.species(0, 3, 1000000);
        x.species(1, 7, 1000000);
        x.land(1, 0, 0, 0, 500, false);
        x.land(1, 0, 1, 0, 500, false);
        check.due(1, x.event(x.equivalent(0, 0, 1, 1), 3));
        check.due(1, x.event(x.equivalent(0, 0, 1, 2), 3));
        check.due(2, x.event(x.equivalent(0, 0, 1, 3), 3));
        check.due(3, x.event(x.equivalent(0, 0, 1, 7), 3));
        check.due(4, x.event(x.equivalent(0, 0, 1, 8), 3));
        check.due(3, x.event(x.equivalent(0, 1, 0, 1), 3));
        check.due(7, x.event(x.equivalent(0, 1, 0, 3), 3));
        check.due(500 - 21 + 10, x.account(1, 0, 0, CHARGED));
        check.due(500 + 11 - 4, x.account(1, 0, 1, CHARGED));
        x.species(2, 1000, 1000000);
        x.land(1, 0, 2, 0, 500, false);
        check.due(286, x.event(x.equivalent(0, 2, 1, 2), 3));
        check.due(1, x.event(x.equivalent(0, 1, 2, 100), 3));
    }

    private static void promise14ValuesOfTheTime(Check check) {
        QuotaRegister x = opened();
        x.species(0, 5, 1000000);
        x.land(1, 0, 0, 0, 500, false);
        int told = x.equivalent(0, 0, 1, 10);
        x.species(0, 1, 1000000);
        x.species(1, 10, 1000000);
        x.land(1, 0, 2, 0, 1, false);
        check.due(50, x.event(told, 3));
        check.due(50, x.account(1, 0, 1, CHARGED));
        x.end();
        x.reopen(1);
        x.land(1, 0, 0, 0, 1, false);
        check.due(50, x.event(told, 3));
        check.due(50, x.account(1, 0, 1, CHARGED));
        check.due(491, x.account(1, 0, 0, CHARGED));
    }

    private static void promise14AtMost1000AVesselAndYear(Check check) {
        QuotaRegister x = opened();
        x.species(0, 2, 1000000);
        for (int v = 0; v < 2; v++) {
            for (int s = 0; s < 4; s++) {
                x.land(1, v, s, 0, 1000, false);
            }
        }
        // The kilograms that count are those of the first species, of all species together.
        check.due(8, x.equivalent(0, 0, 1, 300));
        check.due(600, x.event(8, 3));
        check.due(9, x.equivalent(0, 2, 3, 500));
        check.state(() -> x.equivalent(0, 3, 0, 201));
        check.due(10, x.equivalent(0, 3, 0, 200));
        check.state(() -> x.equivalent(0, 3, 0, 1));
        // Another vessel and another year have their own.
        check.due(11, x.equivalent(1, 2, 3, 1000));
        check.state(() -> x.equivalent(1, 3, 2, 1));
        x.end();
        x.open(8000, 8000, 8000, 8000);
        x.land(2, 0, 2, 0, 1001, false);
        check.due(13, x.equivalent(0, 2, 3, 1000));
        check.state(() -> x.equivalent(0, 2, 3, 1));
    }

    private static void promise14NeedsChargedAndLeft(Check check) {
        QuotaRegister x = opened();
        x.land(1, 0, 0, 0, 100, false);
        x.land(1, 0, 1, 0, 1950, false);
        check.state(() -> x.equivalent(0, 0, 1, 51));
        check.state(() -> x.equivalent(0, 0, 2, 101));
        check.state(() -> x.equivalent(1, 0, 1, 1));
        x.species(0, 2, 1000000);
        check.state(() -> x.equivalent(0, 0, 1, 26));
        check.due(2, x.equivalent(0, 0, 1, 25));
        check.due(0, x.account(1, 0, 1, LEFT));
        check.state(() -> x.equivalent(0, 0, 1, 1));
        check.state(() -> x.equivalent(0, 0, 2, 76));
        check.due(3, x.equivalent(0, 0, 2, 75));
        check.due(0, x.account(1, 0, 0, CHARGED));
        // What came by a lease is left too.
        x.lease(1, 1, 0, 10);
        x.land(1, 0, 3, 0, 11, false);
        check.state(() -> x.equivalent(0, 3, 1, 11));
        check.due(6, x.equivalent(0, 3, 1, 10));
    }

    private static void promises12To14At200Events(Check check) {
        QuotaRegister x = opened();
        for (int i = 0; i < 199; i++) {
            check.due(i, x.land(1, 0, 0, 0, 1, false));
        }
        check.due(199, x.lease(0, 1, 2, 1));
        check.due(200, x.about(2));
        check.state(() -> x.land(1, 0, 0, 0, 1, false));
        check.state(() -> x.lease(0, 1, 2, 1));
        check.state(() -> x.equivalent(0, 0, 1, 1));
        check.argument(() -> x.land(1, 0, 0, 0, 0, false));
        check.argument(() -> x.lease(0, 1, 1, 1));
        check.argument(() -> x.equivalent(0, 0, 1, 0));
        // A strike makes no room: the event is still there.
        x.strike(198);
        check.state(() -> x.land(1, 0, 0, 0, 1, false));
        check.due(200, x.about(2));
        check.due(199, x.about(3));
        check.due(198, x.account(1, 0, 0, CHARGED));
        check.index(() -> x.event(200, 0));
        check.due(0, x.event(199, 0));
        x.end();
        x.reopen(1);
        check.state(() -> x.land(1, 0, 0, 0, 1, false));
    }

    private static void promise20Event(Check check) {
        QuotaRegister x = opened();
        check.index(() -> x.event(0, 0));
        check.index(() -> x.event(-1, 0));
        check.index(() -> x.event(0, 9));
        x.species(0, 3, 1000000);
        x.factor(0, 1, 2000);
        x.lease(1, 0, 1, 250);
        x.land(1, 0, 0, 1, 41, true);
        x.equivalent(0, 0, 1, 12);
        x.end();
        x.open(8000, 8000, 8000, 8000);
        x.land(2, 2, 2, 0, 9, false);
        int[][] due = {{0, 1, 1, 250}, {1, 1, 1, 41}, {2, 1, 1, 36}, {1, 2, 1, 9}};
        for (int i = 0; i < due.length; i++) {
            for (int what = 0; what < 4; what++) {
                check.due(due[i][what], x.event(i, what));
            }
        }
        x.strike(3);
        check.due(0, x.event(3, 2));
        check.due(9, x.event(3, 3));
        check.due(1, x.event(3, 0));
        check.index(() -> x.event(4, 0));
        check.index(() -> x.event(4, 4));
        check.index(() -> x.event(MIN, MIN));
        check.index(() -> x.event(MAX, 0));
        check.argument(() -> x.event(3, 4));
        check.argument(() -> x.event(3, -1));
        check.argument(() -> x.event(0, MAX));
    }

    private static void promise21About(Check check) {
        QuotaRegister x = opened();
        check.due(1, x.about(0));
        check.due(1, x.about(1));
        check.due(0, x.about(2));
        check.due(0, x.about(3));
        x.land(1, 0, 0, 0, 5, false);
        x.land(1, 0, 0, 0, 5, false);
        x.strike(0);
        check.due(2, x.about(2));
        check.due(1, x.about(3));
        x.end();
        check.due(1, x.about(0));
        check.due(0, x.about(1));
        x.open(0, 0, 0, 0);
        check.due(2, x.about(0));
        check.due(1, x.about(1));
        check.due(2, x.about(2));
        check.argument(() -> x.about(4));
        check.argument(() -> x.about(-1));
        check.argument(() -> x.about(MIN));
        check.argument(() -> x.about(MAX));
    }
}
