/** Promises 10, 11, 17 and 18 with ordinary inputs: allotment, accounts, the end of a year, levies. */
public final class YearsTest {
    private final Runs runs = new Runs();

    public static void main(String[] args) {
        YearsTest test = new YearsTest();
        test.promise10();
        test.promise11();
        test.promise11EveryAccount();
        test.promise17();
        test.promise18();
        test.runs.finish();
    }

    private void promise10() {
        runs.run("promise 10: whole kilograms, and those by the remainders", """
            issue(1, 0, 100000)
            place(1, 0, 100000)
            issue(1, 1, 270000)
            place(1, 1, 270000)
            issue(1, 2, 180000)
            place(1, 2, 180000)
            issue(1, 3, 190000)
            place(1, 3, 190000)
            issue(1, 4, 150000)
            place(1, 4, 150000)
            # 0.9, 2.43, 1.62, 1.71, 1.35: 8.01 in all
            open(0, 9, 0, 0) = 1
            account(1, 0, 1, 0) = 1
            account(1, 1, 1, 0) = 2
            account(1, 2, 1, 0) = 2
            account(1, 3, 1, 0) = 2
            account(1, 4, 1, 0) = 1
            account(1, 5, 1, 0) = 0
            end()
            # 0.5, 1.35, 0.9, 0.95, 0.75: 4.45 in all
            open(0, 5, 0, 0) = 2
            account(2, 0, 1, 0) = 0
            account(2, 1, 1, 0) = 1
            account(2, 2, 1, 0) = 1
            account(2, 3, 1, 0) = 1
            account(2, 4, 1, 0) = 1
            """);
        runs.run("promise 10: thirds of a large limit", """
            issue(2, 0, 1000000)
            vessel(1, 0)
            vessel(5, 0)
            place(2, 0, 333333)
            place(2, 1, 333333)
            place(2, 5, 333334)
            # 333332.666667 twice and 333333.666666
            open(0, 0, 999999, 0)
            account(1, 0, 2, 0) = 333333
            account(1, 1, 2, 0) = 333333
            account(1, 5, 2, 0) = 333333
            """);
    }

    private void promise11() {
        runs.run("promise 11: what is left is banked, what is over is advanced and levied", """
            issue(0, 0, 600000)
            place(0, 0, 600000)
            issue(0, 1, 400000)
            place(0, 1, 400000)
            open(1000, 0, 0, 0)
            land(1, 0, 0, 0, 560, false)
            land(1, 1, 0, 0, 450, false)
            end() = 1
            account(1, 0, 0, 6) = 40
            account(1, 1, 0, 7) = 20
            account(1, 1, 0, 8) = 30
            open(1000, 0, 0, 0) = 2
            account(2, 0, 0, 5) = 640
            account(2, 1, 0, 5) = 380
            land(2, 1, 0, 0, 100, false)
            end() = 0
            account(2, 0, 0, 6) = 90
            account(2, 1, 0, 6) = 60
            """);
    }

    private void promise11EveryAccount() {
        for (int i = 0; i < 24; i++) {
            String rows = """
                issue(S, V, 1000000)
                place(S, V, 1000000)
                open(100, 100, 100, 100)
                land(1, V, S, 0, 110, false)
                end() = 1
                account(1, V, S, 7) = 5
                account(1, V, S, 8) = 5
                levy(V, 1) = 5
                open(100, 100, 100, 100)
                account(2, V, S, 3) = 5
                end() = 0
                account(2, V, S, 6) = 15
                open(0, 0, 0, 0)
                account(3, V, S, 2) = 15
                account(3, V, S, 3) = 0
                """;
            runs.run("promise 11: account " + i, rows.replace("S", "" + i % 4).replace("V", "" + i / 4));
        }
    }

    private void promise17() {
        runs.run("promise 17: all figures of accounts with all that can happen", """
            issue(0, 0, 100000)
            place(0, 0, 100000)
            issue(0, 1, 200000)
            place(0, 1, 200000)
            issue(0, 2, 300000)
            place(0, 2, 300000)
            issue(0, 3, 400000)
            place(0, 3, 400000)
            issue(1, 0, 100000)
            place(1, 0, 100000)
            open(1000, 1000, 0, 0)
            land(1, 0, 0, 0, 95, false)
            land(1, 1, 0, 0, 230, false)
            end() = 1
            open(1000, 1000, 0, 0)
            lease(0, 3, 0, 30)
            lease(0, 0, 2, 7)
            lease(0, 2, 1, 9)
            land(2, 0, 0, 0, 50, false)
            land(2, 1, 0, 0, 300, false)
            equivalent(0, 0, 1, 4)
            # banked, and leased both ways
            account(2, 0, 0, 0) = 100
            account(2, 0, 0, 1) = 23
            account(2, 0, 0, 2) = 5
            account(2, 0, 0, 3) = 0
            account(2, 0, 0, 4) = 46
            account(2, 0, 0, 5) = 82
            # taken off, and over
            account(2, 1, 0, 0) = 200
            account(2, 1, 0, 1) = 9
            account(2, 1, 0, 2) = 0
            account(2, 1, 0, 3) = 10
            account(2, 1, 0, 4) = 300
            account(2, 1, 0, 5) = -101
            # charged by an equivalent
            account(2, 0, 1, 2) = 15
            account(2, 0, 1, 4) = 4
            account(2, 0, 1, 5) = 111
            account(2, 2, 0, 1) = -2
            account(2, 3, 0, 1) = -30
            end() = 1
            account(2, 0, 0, 6) = 15
            account(2, 1, 0, 7) = 10
            account(2, 1, 0, 8) = 91
            account(1, 1, 0, 8) = 20
            """);
    }

    private void promise18() {
        runs.run("promise 18: vessels and values as they are now", """
            open(0, 0, 0, 0)
            land(1, 0, 0, 0, 3, false)
            land(1, 0, 1, 0, 50, false)
            land(1, 4, 1, 0, 700, false)
            end() = 3
            levy(0, 1) = 53
            levy(4, 1) = 700
            levy(1, 1) = 0
            species(1, 10, 1000000)
            levy(0, 1) = 503
            vessel(4, 0)
            levy(0, 1) = 7503
            levy(4, 1) = 0
            vessel(0, 5)
            levy(5, 1) = 503
            levy(0, 1) = 7000
            open(0, 0, 0, 0)
            land(2, 0, 2, 0, 4, false)
            end() = 1
            levy(5, 2) = 4
            levy(5, 1) = 503
            """);
    }
}
