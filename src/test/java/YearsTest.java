/** Promises 10, 11, 17 and 18: allotment, accounts, what the end of a year does, levies. */
public final class YearsTest {
    private static final int MIN = Integer.MIN_VALUE;
    private static final int MAX = Integer.MAX_VALUE;

    private static final int ALLOTTED = 0;
    private static final int BANKED = 2;
    private static final int TAKEN_OFF = 3;
    private static final int LEFT = 5;
    private static final int TO_BANK = 6;
    private static final int ADVANCED = 7;
    private static final int LEVIED = 8;

    public static void main(String[] args) {
        Check check = new Check();
        promise10Open(check);
        promise10EightYears(check);
        promise10GreatestRemainders(check);
        promise10EqualRemainders(check);
        promise10LargeAllotments(check);
        promise10AllotmentIsOfPlacedParts(check);
        promise10JustBelowAKilogram(check);
        promise11End(check);
        promise11Banks(check);
        promise11AdvancesAndLevies(check);
        promise11PercentagesAreOfTheAllotment(check);
        promise11EveryAccount(check);
        promise17Account(check);
        promise17WrongInputs(check);
        promise18Levy(check);
        promise18LargeLevy(check);
        check.finish();
    }

    /** A register in which vessel v has 100000 parts for each of its number + 1, of each species. */
    private static QuotaRegister placed() {
        QuotaRegister x = new QuotaRegister();
        for (int s = 0; s < 4; s++) {
            for (int v = 0; v < 4; v++) {
                x.issue(s, v, 100000 * (v + 1));
                x.place(s, v, 100000 * (v + 1));
            }
        }
        return x;
    }

    private static void promise10Open(Check check) {
        QuotaRegister x = placed();
        check.argument(() -> x.open(-1, 0, 0, 0));
        check.argument(() -> x.open(0, -1, 0, 0));
        check.argument(() -> x.open(0, 0, -1, 0));
        check.argument(() -> x.open(0, 0, 0, -1));
        check.argument(() -> x.open(1000001, 0, 0, 0));
        check.argument(() -> x.open(0, 1000001, 0, 0));
        check.argument(() -> x.open(0, 0, 1000001, 0));
        check.argument(() -> x.open(0, 0, 0, 1000001));
        check.argument(() -> x.open(MIN, MAX, MIN, MAX));
        check.due(1, x.open(10, 20, 0, 1000000));
        check.due(1, x.about(0));
        check.due(1, x.about(1));
        for (int v = 0; v < 4; v++) {
            check.due(v + 1, x.account(1, v, 0, ALLOTTED));
            check.due(2 * (v + 1), x.account(1, v, 1, ALLOTTED));
            check.due(0, x.account(1, v, 2, ALLOTTED));
            check.due(100000 * (v + 1), x.account(1, v, 3, ALLOTTED));
        }
        check.due(0, x.account(1, 5, 3, ALLOTTED));
        check.state(() -> x.open(0, 0, 0, 0));
        check.argument(() -> x.open(0, 0, 0, 1000001));
        x.end();
        check.due(2, x.open(0, 0, 0, 0));
        check.due(0, x.account(2, 3, 3, ALLOTTED));
        check.due(400000, x.account(1, 3, 3, ALLOTTED));
    }

    private static void promise10EightYears(Check check) {
        QuotaRegister x = new QuotaRegister();
        for (int year = 1; year <= 8; year++) {
            check.due(year, x.open(1, 1, 1, 1));
            check.due(year, x.about(0));
            check.state(() -> x.open(1, 1, 1, 1));
            check.due(0, x.end());
        }
        check.state(() -> x.open(1, 1, 1, 1));
        check.argument(() -> x.open(1, -1, 1, 1));
        check.state(() -> x.end());
        check.due(8, x.about(0));
        check.due(0, x.about(1));
        x.reopen(8);
        check.state(() -> x.open(1, 1, 1, 1));
        check.state(() -> x.end());
    }

    private static void promise10GreatestRemainders(Check check) {
        QuotaRegister x = new QuotaRegister();
        int[] parts = {100000, 270000, 180000, 190000, 150000, 0};
        for (int v = 0; v < 5; v++) {
            x.issue(1, v, parts[v]);
            x.place(1, v, parts[v]);
        }
        // 0.9, 2.43, 1.62, 1.71, 1.35: 8.01 in all, 8 less 5 are given by remainder to 0, 3 and 2.
        x.open(0, 9, 0, 0);
        int[] due = {1, 2, 2, 2, 1, 0};
        for (int v = 0; v < 6; v++) {
            check.due(due[v], x.account(1, v, 1, ALLOTTED));
        }
        x.end();
        // 0.5, 1.35, 0.9, 0.95, 0.75: 4.45 in all; 3 are missing.
        x.open(0, 5, 0, 0);
        int[] dueThen = {0, 1, 1, 1, 1, 0};
        for (int v = 0; v < 6; v++) {
            check.due(dueThen[v], x.account(2, v, 1, ALLOTTED));
        }
    }

    private static void promise10EqualRemainders(Check check) {
        QuotaRegister x = new QuotaRegister();
        for (int v = 0; v < 6; v++) {
            x.issue(0, v, 166666);
            x.place(0, v, 166666);
            x.issue(1, v, 150000);
            x.place(1, v, v == 1 ? 149999 : 150000);
        }
        // Six times 1.166662: 6.999972, so that none is missing to 6.
        x.open(7, 0, 0, 0);
        for (int v = 0; v < 6; v++) {
            check.due(1, x.account(1, v, 0, ALLOTTED));
        }
        x.end();
        // Six times 0.499998: 2.999988; two go to the least vessels.
        x.open(3, 4, 0, 0);
        for (int v = 0; v < 6; v++) {
            check.due(v < 2 ? 1 : 0, x.account(2, v, 0, ALLOTTED));
            // 0.6 each but 0.599996 on vessel 1: 3.599996; three go to 0, 2 and 3.
            check.due(v == 0 || v == 2 || v == 3 ? 1 : 0, x.account(2, v, 1, ALLOTTED));
        }
    }

    private static void promise10LargeAllotments(Check check) {
        QuotaRegister x = new QuotaRegister();
        x.issue(2, 0, 1000000);
        x.vessel(1, 0);
        x.vessel(5, 0);
        x.place(2, 0, 333333);
        x.place(2, 1, 333333);
        x.place(2, 5, 333334);
        x.open(0, 0, 999999, 0);
        // 333332.666667 twice and 333333.666666.
        check.due(333333, x.account(1, 0, 2, ALLOTTED));
        check.due(333333, x.account(1, 1, 2, ALLOTTED));
        check.due(333333, x.account(1, 5, 2, ALLOTTED));
        x.end();
        x.place(2, 1, -333333);
        x.place(2, 5, -333334);
        x.place(2, 0, 666667);
        x.open(0, 0, 1000000, 0);
        check.due(1000000, x.account(2, 0, 2, ALLOTTED));
    }

    private static void promise10AllotmentIsOfPlacedParts(Check check) {
        QuotaRegister x = new QuotaRegister();
        x.issue(0, 0, 1000000);
        x.place(0, 0, 500);
        x.open(1000, 0, 0, 0);
        // 0.5: T is 0, and nothing is given for parts that are free.
        check.due(0, x.account(1, 0, 0, ALLOTTED));
        x.place(0, 0, 500);
        check.due(0, x.account(1, 0, 0, ALLOTTED));
        x.end();
        x.open(1000, 0, 0, 0);
        check.due(1, x.account(2, 0, 0, ALLOTTED));
        check.due(0, x.account(1, 0, 0, ALLOTTED));
    }

    private static void promise10JustBelowAKilogram(Check check) {
        QuotaRegister x = new QuotaRegister();
        x.issue(0, 0, 499999);
        x.issue(0, 3, 500000);
        x.place(0, 0, 499999);
        x.place(0, 3, 500000);
        x.issue(1, 0, 500000);
        x.issue(1, 3, 500000);
        x.place(1, 0, 500000);
        x.place(1, 3, 500000);
        x.open(1, 1, 0, 0);
        check.due(0, x.account(1, 0, 0, ALLOTTED));
        check.due(0, x.account(1, 3, 0, ALLOTTED));
        check.due(1, x.account(1, 0, 1, ALLOTTED));
        check.due(0, x.account(1, 3, 1, ALLOTTED));
    }

    private static void promise11End(Check check) {
        QuotaRegister x = placed();
        check.state(() -> x.end());
        x.open(100, 100, 0, 0);
        x.land(1, 0, 0, 0, 11, false);
        x.land(1, 5, 2, 0, 1, false);
        x.land(1, 1, 1, 0, 22, false);
        x.land(1, 3, 1, 0, 40, false);
        // Over: 1 of 10 (5 percent: 0), 1 of 0, 2 of 20 (1).
        check.due(3, x.end());
        check.due(1, x.account(1, 0, 0, LEVIED));
        check.due(1, x.account(1, 5, 2, LEVIED));
        check.due(1, x.account(1, 1, 1, LEVIED));
        check.due(0, x.account(1, 3, 1, LEVIED));
        check.due(0, x.about(1));
        check.due(1, x.about(0));
        check.state(() -> x.end());
        x.open(100, 100, 0, 0);
        // Only the levies of the year that ends are counted: 20 - 1 are left to vessel 1, 1 is over.
        x.land(2, 1, 1, 0, 20, false);
        check.due(0, x.end());
        check.due(1, x.account(2, 1, 1, ADVANCED));
    }

    private static void promise11Banks(Check check) {
        QuotaRegister x = new QuotaRegister();
        x.issue(0, 0, 1000000);
        x.place(0, 0, 1000000);
        x.open(119, 0, 0, 0);
        x.land(1, 0, 0, 0, 101, false);
        x.end();
        // 15 percent of 119 are 17.85; 18 are left.
        check.due(18, x.account(1, 0, 0, LEFT));
        check.due(17, x.account(1, 0, 0, TO_BANK));
        check.due(0, x.account(1, 0, 0, ADVANCED));
        check.due(0, x.account(1, 0, 0, LEVIED));
        x.open(100, 0, 0, 0);
        check.due(17, x.account(2, 0, 0, BANKED));
        check.due(0, x.account(2, 0, 0, TAKEN_OFF));
        check.due(117, x.account(2, 0, 0, LEFT));
        x.land(2, 0, 0, 0, 103, false);
        x.end();
        // What is left is less than 15 percent.
        check.due(14, x.account(2, 0, 0, TO_BANK));
        x.open(10, 0, 0, 0);
        check.due(14, x.account(3, 0, 0, BANKED));
        x.land(3, 0, 0, 0, 24, false);
        x.end();
        check.due(0, x.account(3, 0, 0, LEFT));
        check.due(0, x.account(3, 0, 0, TO_BANK));
        check.due(0, x.account(3, 0, 0, ADVANCED));
        x.open(10, 0, 0, 0);
        check.due(0, x.account(4, 0, 0, BANKED));
        check.due(10, x.account(4, 0, 0, LEFT));
    }

    private static void promise11AdvancesAndLevies(Check check) {
        QuotaRegister x = new QuotaRegister();
        x.issue(3, 2, 1000000);
        x.place(3, 2, 1000000);
        x.open(0, 0, 0, 119);
        x.land(1, 2, 3, 0, 125, false);
        check.due(1, x.end());
        // 5 percent of 119 are 5.95; 6 are over.
        check.due(-6, x.account(1, 2, 3, LEFT));
        check.due(0, x.account(1, 2, 3, TO_BANK));
        check.due(5, x.account(1, 2, 3, ADVANCED));
        check.due(1, x.account(1, 2, 3, LEVIED));
        x.open(0, 0, 0, 100);
        check.due(0, x.account(2, 2, 3, BANKED));
        check.due(5, x.account(2, 2, 3, TAKEN_OFF));
        check.due(95, x.account(2, 2, 3, LEFT));
        x.land(2, 2, 3, 0, 98, false);
        check.due(0, x.end());
        check.due(3, x.account(2, 2, 3, ADVANCED));
        check.due(0, x.account(2, 2, 3, LEVIED));
        x.open(0, 0, 0, 0);
        // A year that begins below 0 because nothing is allotted.
        check.due(-3, x.account(3, 2, 3, LEFT));
        check.due(1, x.end());
        check.due(0, x.account(3, 2, 3, ADVANCED));
        check.due(3, x.account(3, 2, 3, LEVIED));
        x.open(0, 0, 0, 0);
        check.due(0, x.account(4, 2, 3, TAKEN_OFF));
    }

    private static void promise11PercentagesAreOfTheAllotment(Check check) {
        QuotaRegister x = placed();
        x.open(1000, 0, 0, 0);
        x.lease(0, 3, 0, 400);
        x.lease(0, 2, 5, 300);
        x.land(1, 2, 0, 0, 40, false);
        x.end();
        // Vessel 0: 100 allotted, 500 left; vessel 5 has 300 left of nothing allotted.
        check.due(15, x.account(1, 0, 0, TO_BANK));
        check.due(0, x.account(1, 5, 0, TO_BANK));
        check.due(0, x.account(1, 3, 0, TO_BANK));
        // Vessel 2: 300 allotted, 0 of them left before 40 are landed.
        check.due(15, x.account(1, 2, 0, ADVANCED));
        check.due(25, x.account(1, 2, 0, LEVIED));
    }

    private static void promise11EveryAccount(Check check) {
        for (int i = 0; i < 24; i++) {
            int v = i / 4;
            int s = i % 4;
            QuotaRegister x = new QuotaRegister();
            x.issue(s, v, 1000000);
            x.place(s, v, 1000000);
            x.open(100, 100, 100, 100);
            x.land(1, v, s, 0, 110, false);
            check.due(1, x.end());
            check.due(5, x.account(1, v, s, ADVANCED));
            check.due(5, x.account(1, v, s, LEVIED));
            x.open(100, 100, 100, 100);
            check.due(5, x.account(2, v, s, TAKEN_OFF));
            check.due(0, x.end());
            x.open(0, 0, 0, 0);
            check.due(15, x.account(3, v, s, BANKED));
            check.due(0, x.account(3, v, s, TAKEN_OFF));
        }
    }

    private static void promise17Account(Check check) {
        QuotaRegister x = placed();
        x.open(1000, 1000, 0, 0);
        x.land(1, 0, 0, 0, 95, false);
        x.land(1, 1, 0, 0, 230, false);
        x.end();
        x.open(1000, 1000, 0, 0);
        x.lease(0, 3, 0, 30);
        x.lease(0, 0, 2, 7);
        x.lease(0, 2, 1, 9);
        x.land(2, 0, 0, 0, 50, false);
        x.land(2, 1, 0, 0, 300, false);
        x.equivalent(0, 0, 1, 4);
        int[] dueOpen = {100, 23, 5, 0, 46, 82, 0, 0, 0};
        int[] dueOver = {200, 9, 0, 10, 300, -101, 0, 0, 0};
        int[] dueSecond = {100, 0, 15, 0, 4, 111, 0, 0, 0};
        for (int what = 0; what < 9; what++) {
            check.due(dueOpen[what], x.account(2, 0, 0, what));
            check.due(dueOver[what], x.account(2, 1, 0, what));
            check.due(dueSecond[what], x.account(2, 0, 1, what));
        }
        int[] dueFirst = {200, 0, 0, 0, 230, -30, 0, 10, 20};
        for (int what = 0; what < 9; what++) {
            check.due(dueFirst[what], x.account(1, 1, 0, what));
        }
        check.due(-30, x.account(2, 3, 0, 1));
        check.due(-2, x.account(2, 2, 0, 1));
        x.end();
        check.due(15, x.account(2, 0, 0, TO_BANK));
        check.due(10, x.account(2, 1, 0, ADVANCED));
        check.due(91, x.account(2, 1, 0, LEVIED));
        check.due(-101, x.account(2, 1, 0, LEFT));
    }

    private static void promise17WrongInputs(Check check) {
        QuotaRegister x = new QuotaRegister();
        check.argument(() -> x.account(0, 0, 0, 0));
        check.argument(() -> x.account(1, 0, 0, 0));
        x.open(0, 0, 0, 0);
        check.due(0, x.account(1, 5, 3, 8));
        check.argument(() -> x.account(0, 0, 0, 0));
        check.argument(() -> x.account(-1, 0, 0, 0));
        check.argument(() -> x.account(2, 0, 0, 0));
        check.argument(() -> x.account(1, -1, 0, 0));
        check.argument(() -> x.account(1, 6, 0, 0));
        check.argument(() -> x.account(1, 0, -1, 0));
        check.argument(() -> x.account(1, 0, 4, 0));
        check.argument(() -> x.account(1, 0, 0, -1));
        check.argument(() -> x.account(1, 0, 0, 9));
        check.argument(() -> x.account(MAX, MAX, MIN, MIN));
    }

    private static void promise18Levy(Check check) {
        QuotaRegister x = new QuotaRegister();
        check.argument(() -> x.levy(0, 0));
        check.argument(() -> x.levy(0, 1));
        x.open(0, 0, 0, 0);
        x.land(1, 0, 0, 0, 3, false);
        x.land(1, 0, 1, 0, 50, false);
        x.land(1, 4, 1, 0, 700, false);
        check.due(0, x.levy(0, 1));
        check.due(3, x.end());
        check.due(53, x.levy(0, 1));
        check.due(700, x.levy(4, 1));
        check.due(0, x.levy(1, 1));
        // Vessels and values are as they are now.
        x.species(1, 10, 1000000);
        check.due(503, x.levy(0, 1));
        x.vessel(4, 0);
        check.due(7503, x.levy(0, 1));
        check.due(0, x.levy(4, 1));
        x.vessel(0, 5);
        check.due(503, x.levy(5, 1));
        check.due(7000, x.levy(0, 1));
        x.open(0, 0, 0, 0);
        check.due(0, x.levy(5, 2));
        x.land(2, 0, 2, 0, 4, false);
        check.due(1, x.end());
        check.due(4, x.levy(5, 2));
        check.due(503, x.levy(5, 1));
        check.argument(() -> x.levy(-1, 1));
        check.argument(() -> x.levy(6, 1));
        check.argument(() -> x.levy(0, 0));
        check.argument(() -> x.levy(0, 3));
        check.argument(() -> x.levy(MIN, MAX));
    }

    private static void promise18LargeLevy(Check check) {
        QuotaRegister x = new QuotaRegister();
        x.species(0, 1000, 1000000);
        x.factor(0, 0, 5000);
        x.open(0, 0, 0, 0);
        for (int i = 0; i < 200; i++) {
            x.land(1, 1, 0, 0, 1000000, false);
        }
        check.due(1000000000, x.account(1, 1, 0, 4));
        check.due(-1000000000, x.account(1, 1, 0, LEFT));
        check.due(1, x.end());
        check.due(1000000000000L, x.levy(1, 1));
    }
}
