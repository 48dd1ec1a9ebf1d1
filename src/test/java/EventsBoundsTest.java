/** The boundary cases of promises 12 to 14, 20 and 21, and of the terms that they use. */
public final class EventsBoundsTest {
    private final Runs runs = new Runs();

    public static void main(String[] args) {
        EventsBoundsTest test = new EventsBoundsTest();
        test.promise12Numbers();
        test.promise12Left();
        test.promise12NoYearIsOpen();
        test.promise13Numbers();
        test.promise13NoFactor();
        test.promise13OpenOrReopened();
        test.promise13LiveWeight();
        test.promise14Numbers();
        test.promise14Charged();
        test.promise14Left();
        test.promise14AtMost1000();
        test.promise14ChargedUp();
        test.promise14NoYearIsOpen();
        test.promises12To14Full();
        test.promise20Event();
        test.promise21About();
        test.promises1To21OfThe512Calls();
        test.runs.finish();
    }

    private void promise12Numbers() {
        runs.run("promise 12: species 0 .. 3", """
            issue(0, 0, 1000000)
            place(0, 0, 1000000)
            issue(3, 0, 1000000)
            place(3, 0, 1000000)
            open(10, 10, 10, 10)
            lease(-1, 0, 1, 1) throws IllegalArgument
            lease(4, 0, 1, 1) throws IllegalArgument
            lease(MIN, 0, 1, 1) throws IllegalArgument
            lease(MAX, 0, 1, 1) throws IllegalArgument
            lease(0, 0, 1, 1) = 0
            lease(3, 0, 1, 2) = 1
            account(1, 1, 0, 1) = 1
            account(1, 1, 3, 1) = 2
            """);
        runs.run("promise 12: vessels 0 .. 5, not the same", """
            issue(1, 0, 500000)
            place(1, 0, 500000)
            issue(1, 5, 500000)
            place(1, 5, 500000)
            open(0, 20, 0, 0)
            lease(1, -1, 0, 1) throws IllegalArgument
            lease(1, 0, -1, 1) throws IllegalArgument
            lease(1, 6, 0, 1) throws IllegalArgument
            lease(1, 0, 6, 1) throws IllegalArgument
            lease(1, MIN, 0, 1) throws IllegalArgument
            lease(1, 0, MAX, 1) throws IllegalArgument
            lease(1, 0, 0, 1) throws IllegalArgument
            lease(1, 5, 5, 1) throws IllegalArgument
            lease(1, 0, 5, 3) = 0
            account(1, 0, 1, 1) = -3
            account(1, 5, 1, 1) = 3
            lease(1, 5, 0, 4) = 1
            account(1, 0, 1, 1) = 1
            account(1, 5, 1, 1) = -1
            """);
        runs.run("promise 12: kilograms 1 .. 1000000", """
            issue(2, 0, 1000000)
            place(2, 0, 1000000)
            open(0, 0, 1000000, 0)
            lease(2, 0, 1, 0) throws IllegalArgument
            lease(2, 0, 1, -1) throws IllegalArgument
            lease(2, 0, 1, MIN) throws IllegalArgument
            lease(2, 0, 1, 1000001) throws IllegalArgument
            lease(2, 0, 1, MAX) throws IllegalArgument
            lease(2, 0, 1, 1000000) = 0
            account(1, 0, 2, 5) = 0
            account(1, 1, 2, 5) = 1000000
            lease(2, 1, 0, 1) = 1
            account(1, 1, 2, 5) = 999999
            end()
            open(0, 0, 1000000, 0)
            # 1000001 are left with the one that was banked, but so many can't be told in one
            account(2, 0, 2, 5) = 1000001
            lease(2, 0, 1, 1000001) throws IllegalArgument
            """);
        runs.run("promise 12: IllegalArgumentException is named first", """
            lease(0, 0, 1, 1) throws IllegalState
            lease(4, 0, 1, 1) throws IllegalArgument
            lease(0, 0, 6, 1) throws IllegalArgument
            lease(0, 0, 0, 1) throws IllegalArgument
            lease(0, 0, 1, 0) throws IllegalArgument
            lease(0, 0, 1, 1000001) throws IllegalArgument
            open(0, 0, 0, 0)
            lease(0, 0, 1, 1000000) throws IllegalState
            lease(0, 0, 1, 1000001) throws IllegalArgument
            """);
    }

    private void promise12Left() {
        runs.each("$v", 6, "promise 12: just so many as are left, or more", """
            issue(1, $v, 1000000)
            place(1, $v, 1000000)
            open(100, 100, 100, 100)
            lease(1, $v, $v+, 101) throws IllegalState
            lease(1, $v, $v+, 1000000) throws IllegalState
            lease(2, $v, $v+, 1) throws IllegalState
            lease(1, $v+, $v, 1) throws IllegalState
            lease(1, $v, $v+, 60) = 0
            lease(1, $v, $v+, 41) throws IllegalState
            lease(1, $v, $v+, 40) = 1
            lease(1, $v, $v+, 1) throws IllegalState
            # what came by a lease can go on
            lease(1, $v+, $v, 101) throws IllegalState
            lease(1, $v+, $v, 100) = 2
            account(1, $v, 1, 5) = 100
            account(1, $v+, 1, 5) = 0
            """);
        runs.run("promise 12: what is charged is not left", """
            issue(0, 2, 1000000)
            place(0, 2, 1000000)
            open(100, 0, 0, 0)
            land(1, 2, 0, 0, 90, false)
            lease(0, 2, 3, 11) throws IllegalState
            lease(0, 2, 3, 9) = 1
            lease(0, 2, 3, 2) throws IllegalState
            lease(0, 2, 3, 1) = 2
            lease(0, 2, 3, 1) throws IllegalState
            land(1, 2, 0, 0, 1, false)
            # left is below 0
            lease(0, 2, 3, 1) throws IllegalState
            strike(0)
            lease(0, 2, 3, 90) throws IllegalState
            lease(0, 2, 3, 89) = 4
            """);
        runs.run("promise 12: what is banked is left", """
            issue(0, 0, 1000000)
            place(0, 0, 1000000)
            open(100, 0, 0, 0)
            end()
            open(10, 0, 0, 0)
            lease(0, 0, 1, 26) throws IllegalState
            lease(0, 0, 1, 25) = 0
            """);
        runs.run("promise 12: what is taken off is not left", """
            issue(0, 0, 1000000)
            place(0, 0, 1000000)
            open(100, 0, 0, 0)
            land(1, 0, 0, 0, 105, false)
            end()
            open(10, 0, 0, 0)
            lease(0, 0, 1, 6) throws IllegalState
            lease(0, 0, 1, 5) = 1
            event(1, 1) = 2
            """);
    }

    private void promise12NoYearIsOpen() {
        runs.run("promise 12: no year is open", """
            issue(0, 0, 1000000)
            place(0, 0, 1000000)
            lease(0, 0, 1, 1) throws IllegalState
            open(100, 0, 0, 0)
            lease(0, 0, 1, 1) = 0
            end()
            lease(0, 0, 1, 1) throws IllegalState
            reopen(1)
            # a reopened year takes no leases
            lease(0, 0, 1, 1) throws IllegalState
            open(100, 0, 0, 0)
            lease(0, 0, 1, 1) = 1
            event(1, 1) = 2
            account(1, 1, 0, 1) = 1
            account(2, 1, 0, 1) = 1
            """);
    }

    private void promise13Numbers() {
        runs.run("promise 13: a year that there was", """
            land(0, 0, 0, 0, 1, false) throws IllegalArgument
            land(1, 0, 0, 0, 1, false) throws IllegalArgument
            open(0, 0, 0, 0)
            land(0, 0, 0, 0, 1, false) throws IllegalArgument
            land(-1, 0, 0, 0, 1, false) throws IllegalArgument
            land(2, 0, 0, 0, 1, false) throws IllegalArgument
            land(8, 0, 0, 0, 1, false) throws IllegalArgument
            land(9, 0, 0, 0, 1, false) throws IllegalArgument
            land(MIN, 0, 0, 0, 1, false) throws IllegalArgument
            land(MAX, 0, 0, 0, 1, false) throws IllegalArgument
            land(1, 0, 0, 0, 1, false) = 0
            end()
            land(2, 0, 0, 0, 1, false) throws IllegalArgument
            open(0, 0, 0, 0)
            land(2, 0, 0, 0, 1, false) = 1
            land(3, 0, 0, 0, 1, false) throws IllegalArgument
            event(0, 1) = 1
            event(1, 1) = 2
            """);
        runs.run("promise 13: year 8, and no ninth", Runs.SEVEN_YEARS + """
            land(8, 0, 0, 0, 1, false) throws IllegalArgument
            open(0, 0, 0, 0)
            land(8, 0, 0, 0, 1, false) = 0
            land(9, 0, 0, 0, 1, false) throws IllegalArgument
            land(7, 0, 0, 0, 1, false) throws IllegalState
            """);
        runs.run("promise 13: vessels 0 .. 5", """
            open(0, 0, 0, 0)
            land(1, -1, 0, 0, 1, false) throws IllegalArgument
            land(1, 6, 0, 0, 1, false) throws IllegalArgument
            land(1, MIN, 0, 0, 1, true) throws IllegalArgument
            land(1, MAX, 0, 0, 1, true) throws IllegalArgument
            land(1, 0, 0, 0, 5, false) = 0
            land(1, 5, 0, 0, 6, false) = 1
            account(1, 0, 0, 4) = 5
            account(1, 5, 0, 4) = 6
            """);
        runs.run("promise 13: species 0 .. 3", """
            open(0, 0, 0, 0)
            land(1, 0, -1, 0, 1, false) throws IllegalArgument
            land(1, 0, 4, 0, 1, false) throws IllegalArgument
            land(1, 0, MIN, 0, 1, true) throws IllegalArgument
            land(1, 0, MAX, 0, 1, true) throws IllegalArgument
            land(1, 0, 0, 0, 5, false) = 0
            land(1, 0, 3, 0, 6, false) = 1
            account(1, 0, 0, 4) = 5
            account(1, 0, 3, 4) = 6
            """);
        runs.run("promise 13: form 0 .. 2", """
            open(0, 0, 0, 0)
            land(1, 0, 0, -1, 1, false) throws IllegalArgument
            land(1, 0, 0, 3, 1, false) throws IllegalArgument
            land(1, 0, 0, MIN, 1, true) throws IllegalArgument
            land(1, 0, 0, MAX, 1, true) throws IllegalArgument
            # such forms lie next to those of other species
            land(1, 0, 1, -1, 1, false) throws IllegalArgument
            land(1, 0, 3, 3, 1, false) throws IllegalArgument
            land(1, 0, 0, 0, 5, false) = 0
            land(1, 0, 0, 2, 6, false) = 1
            account(1, 0, 0, 4) = 11
            """);
        runs.run("promise 13: kilograms 1 .. 1000000", """
            open(0, 0, 0, 0)
            land(1, 0, 0, 0, 0, false) throws IllegalArgument
            land(1, 0, 0, 0, -1, false) throws IllegalArgument
            land(1, 0, 0, 0, MIN, true) throws IllegalArgument
            land(1, 0, 0, 0, 1000001, false) throws IllegalArgument
            land(1, 0, 0, 0, MAX, true) throws IllegalArgument
            land(1, 0, 0, 0, 1, false) = 0
            land(1, 0, 0, 0, 1000000, false) = 1
            account(1, 0, 0, 4) = 1000001
            """);
    }

    private void promise13NoFactor() {
        runs.each("$s", 4, "promise 13: there is no factor, or the least one", """
            open(0, 0, 0, 0)
            factor($s, 0, 0)
            factor($s, 1, 1)
            land(1, 0, $s, 0, 1000, false) throws IllegalArgument
            land(1, 0, $s, 0, 1000000, true) throws IllegalArgument
            land(1, 0, $s, 1, 1000, false) = 0
            land(1, 0, $s, 2, 1000, false) = 1
            land(1, 0, $s+, 0, 1000, false) = 2
            event(0, 3) = 1
            event(1, 3) = 1000
            """);
        runs.run("promise 13: IllegalArgumentException is named first", """
            open(0, 0, 0, 0)
            end()
            land(1, 0, 0, 0, 1, false) throws IllegalState
            land(1, 6, 0, 0, 1, false) throws IllegalArgument
            land(1, 0, 4, 0, 1, false) throws IllegalArgument
            land(1, 0, 0, 3, 1, false) throws IllegalArgument
            land(1, 0, 0, 0, 0, false) throws IllegalArgument
            factor(0, 0, 0)
            land(1, 0, 0, 0, 1, false) throws IllegalArgument
            land(1, 0, 0, 1, 1, false) throws IllegalState
            """);
    }

    private void promise13OpenOrReopened() {
        runs.run("promise 13: the year is open, ended, reopened", """
            open(0, 0, 0, 0)
            land(1, 0, 0, 0, 1, false) = 0
            end()
            land(1, 0, 0, 0, 1, false) throws IllegalState
            reopen(1)
            land(1, 0, 0, 0, 1, false) = 1
            open(0, 0, 0, 0)
            land(1, 0, 0, 0, 1, false) = 2
            land(2, 0, 0, 0, 1, false) = 3
            end()
            land(1, 0, 0, 0, 1, false) = 4
            land(2, 0, 0, 0, 1, false) throws IllegalState
            account(1, 0, 0, 4) = 4
            account(2, 0, 0, 4) = 1
            """);
        runs.run("promise 13: what is not left can be landed all the same", """
            open(0, 0, 0, 0)
            land(1, 4, 2, 0, 1, false) = 0
            event(0, 2) = 1
            account(1, 4, 2, 5) = -1
            """);
    }

    /** A factor, kilograms, the live weight, and that of undersized fish. */
    private void weighs(int factor, int kg, int live, int undersized) {
        String rows = """
            open(0, 0, 0, 0)
            factor(2, 1, FACTOR)
            land(1, 4, 2, 1, KG, false) = 0
            land(1, 5, 2, 1, KG, true) = 1
            # neither the present factor nor anything else is for what was told before
            factor(2, 1, 0)
            event(0, 3) = LIVE
            event(1, 3) = UNDERSIZED
            event(0, 2) = 1
            event(1, 2) = 1
            account(1, 4, 2, 4) = LIVE
            account(1, 5, 2, 4) = UNDERSIZED
            land(1, 0, 0, 0, 1, false) = 2
            end()
            reopen(1)
            strike(2)
            account(1, 4, 2, 4) = LIVE
            account(1, 5, 2, 8) = UNDERSIZED
            """;
        runs.run("promise 13: " + kg + " kilograms by " + factor, rows
                .replace("FACTOR", "" + factor)
                .replace("KG", "" + kg)
                .replace("LIVE", "" + live)
                .replace("UNDERSIZED", "" + undersized));
    }

    private void promise13LiveWeight() {
        // 0.499, 0.500, 0.501; 1.499, 1.500; down to nothing, up to a kilogram
        weighs(1, 1, 0, 0);
        weighs(1, 499, 0, 0);
        weighs(1, 500, 1, 1);
        weighs(1, 501, 1, 1);
        weighs(499, 1, 0, 0);
        weighs(500, 1, 1, 1);
        weighs(1499, 1, 1, 1);
        weighs(1500, 1, 2, 1);
        weighs(1, 1499, 1, 1);
        weighs(1, 1500, 2, 1);
        weighs(2499, 1, 2, 1);
        weighs(2500, 1, 3, 2);
        // half of the live weight, up: of 1, 2, 3, 4
        weighs(1000, 1, 1, 1);
        weighs(1000, 2, 2, 1);
        weighs(1000, 3, 3, 2);
        weighs(1000, 4, 4, 2);
        weighs(999, 500, 500, 250);
        weighs(999, 501, 500, 250);
        weighs(1001, 500, 501, 251);
        weighs(1001, 499, 499, 250);
        // the largest, and such as an int doesn't hold before it is divided
        weighs(5000, 1000000, 5000000, 2500000);
        weighs(4999, 999999, 4998995, 2499498);
        weighs(5000, 429497, 2147485, 1073743);
        weighs(2148, 999999, 2147998, 1073999);
        weighs(4295, 1000000, 4295000, 2147500);
    }

    private void promise14Numbers() {
        runs.run("promise 14: vessels 0 .. 5", """
            issue(1, 0, 500000)
            place(1, 0, 500000)
            issue(1, 5, 500000)
            place(1, 5, 500000)
            open(0, 20, 0, 0)
            land(1, 0, 0, 0, 10, false)
            land(1, 5, 0, 0, 10, false)
            equivalent(-1, 0, 1, 1) throws IllegalArgument
            equivalent(6, 0, 1, 1) throws IllegalArgument
            equivalent(MIN, 0, 1, 1) throws IllegalArgument
            equivalent(MAX, 0, 1, 1) throws IllegalArgument
            equivalent(0, 0, 1, 1) = 2
            equivalent(5, 0, 1, 2) = 3
            account(1, 0, 1, 4) = 1
            account(1, 5, 1, 4) = 2
            """);
        runs.run("promise 14: species 0 .. 3, not the same", """
            issue(0, 2, 1000000)
            place(0, 2, 1000000)
            issue(3, 2, 1000000)
            place(3, 2, 1000000)
            open(10, 0, 0, 10)
            land(1, 2, 0, 0, 5, false)
            land(1, 2, 3, 0, 5, false)
            equivalent(2, -1, 0, 1) throws IllegalArgument
            equivalent(2, 0, -1, 1) throws IllegalArgument
            equivalent(2, 4, 0, 1) throws IllegalArgument
            equivalent(2, 0, 4, 1) throws IllegalArgument
            equivalent(2, MIN, 0, 1) throws IllegalArgument
            equivalent(2, 0, MAX, 1) throws IllegalArgument
            equivalent(2, 0, 0, 1) throws IllegalArgument
            equivalent(2, 3, 3, 1) throws IllegalArgument
            equivalent(2, 0, 3, 1) = 2
            equivalent(2, 3, 0, 2) = 3
            account(1, 2, 0, 4) = 6
            account(1, 2, 3, 4) = 4
            """);
        runs.run("promise 14: kilograms 1 .. 1000", """
            issue(1, 0, 1000000)
            place(1, 0, 1000000)
            open(0, 5000, 0, 0)
            land(1, 0, 0, 0, 5000, false)
            equivalent(0, 0, 1, 0) throws IllegalArgument
            equivalent(0, 0, 1, -1) throws IllegalArgument
            equivalent(0, 0, 1, MIN) throws IllegalArgument
            equivalent(0, 0, 1, 1001) throws IllegalArgument
            equivalent(0, 0, 1, MAX) throws IllegalArgument
            equivalent(0, 0, 1, 1000) = 1
            end()
            open(0, 5000, 0, 0)
            land(2, 0, 0, 0, 5000, false)
            equivalent(0, 0, 1, 1) = 3
            """);
        runs.run("promise 14: IllegalArgumentException is named first", """
            equivalent(0, 0, 1, 1) throws IllegalState
            equivalent(6, 0, 1, 1) throws IllegalArgument
            equivalent(0, 4, 1, 1) throws IllegalArgument
            equivalent(0, 0, 0, 1) throws IllegalArgument
            equivalent(0, 0, 1, 0) throws IllegalArgument
            equivalent(0, 0, 1, 1001) throws IllegalArgument
            open(0, 0, 0, 0)
            equivalent(0, 0, 1, 1000) throws IllegalState
            equivalent(0, 0, 1, 1001) throws IllegalArgument
            equivalent(0, 1, 1, 1000) throws IllegalArgument
            """);
    }

    private void promise14Charged() {
        runs.each("$v", 6, "promise 14: just so many as are charged to the first, or more", """
            issue(1, $v, 1000000)
            place(1, $v, 1000000)
            open(0, 1000, 0, 0)
            equivalent($v, 0, 1, 1) throws IllegalState
            land(1, $v+, 0, 0, 100, false) = 0
            # what is charged to another vessel, or to another species
            equivalent($v, 0, 1, 1) throws IllegalState
            land(1, $v, 2, 0, 100, false) = 1
            equivalent($v, 0, 1, 1) throws IllegalState
            land(1, $v, 0, 0, 50, false) = 2
            equivalent($v, 0, 1, 51) throws IllegalState
            equivalent($v, 0, 1, 20) = 3
            equivalent($v, 0, 1, 31) throws IllegalState
            equivalent($v, 0, 1, 30) = 4
            equivalent($v, 0, 1, 1) throws IllegalState
            account(1, $v, 0, 4) = 0
            account(1, $v, 1, 4) = 50
            """);
        runs.run("promise 14: what came by an equivalent is charged, what was struck is not", """
            issue(1, 0, 1000000)
            place(1, 0, 1000000)
            issue(2, 0, 1000000)
            place(2, 0, 1000000)
            open(0, 100, 100, 0)
            land(1, 0, 0, 0, 10, false) = 0
            land(1, 0, 0, 0, 10, false) = 1
            strike(0)
            equivalent(0, 0, 1, 11) throws IllegalState
            equivalent(0, 0, 1, 10) = 2
            equivalent(0, 1, 2, 11) throws IllegalState
            equivalent(0, 1, 2, 10) = 3
            account(1, 0, 0, 4) = 0
            account(1, 0, 1, 4) = 0
            account(1, 0, 2, 4) = 10
            """);
    }

    private void promise14Left() {
        runs.each("$v", 6, "promise 14: what is charged to the second is just left to it, or not", """
            issue(2, $v, 1000000)
            place(2, $v, 1000000)
            open(0, 0, 40, 0)
            land(1, $v, 1, 0, 500, false) = 0
            equivalent($v, 1, 2, 41) throws IllegalState
            equivalent($v, 1, 3, 1) throws IllegalState
            equivalent($v, 1, 2, 25) = 1
            equivalent($v, 1, 2, 16) throws IllegalState
            equivalent($v, 1, 2, 15) = 2
            account(1, $v, 2, 5) = 0
            equivalent($v, 1, 2, 1) throws IllegalState
            land(1, $v, 2, 0, 1, false) = 3
            # left is below 0
            equivalent($v, 1, 2, 1) throws IllegalState
            """);
        runs.run("promise 14: left is what the second's kilograms need, not the first's", """
            issue(1, 0, 1000000)
            place(1, 0, 1000000)
            species(0, 3, 1000000)
            species(1, 2, 1000000)
            open(0, 29, 0, 0)
            land(1, 0, 0, 0, 100, false)
            # 20 are 30 of the second, 19 are 28.5 and so 29
            equivalent(0, 0, 1, 20) throws IllegalState
            equivalent(0, 0, 1, 19) = 1
            account(1, 0, 1, 5) = 0
            account(1, 0, 0, 4) = 81
            """);
        runs.run("promise 14: fewer of a dear species than are left of it", """
            issue(1, 0, 1000000)
            place(1, 0, 1000000)
            species(1, 10, 1000000)
            open(0, 5, 0, 0)
            land(1, 0, 0, 0, 100, false)
            equivalent(0, 0, 1, 51) throws IllegalState
            equivalent(0, 0, 1, 50) = 1
            account(1, 0, 1, 5) = 0
            """);
        runs.run("promise 14: what is leased, banked, taken off", """
            issue(0, 0, 1000000)
            place(0, 0, 1000000)
            issue(1, 0, 1000000)
            place(1, 0, 1000000)
            open(100, 100, 0, 0)
            land(1, 0, 1, 0, 105, false)
            end()
            open(10, 20, 0, 0)
            lease(0, 0, 1, 2)
            land(2, 0, 3, 0, 100, false)
            # 10 + 15 - 2 and 20 - 5
            equivalent(0, 3, 0, 24) throws IllegalState
            equivalent(0, 3, 0, 23) = 3
            equivalent(0, 3, 1, 16) throws IllegalState
            equivalent(0, 3, 1, 15) = 4
            land(2, 1, 3, 0, 9, false) = 5
            equivalent(1, 3, 0, 3) throws IllegalState
            equivalent(1, 3, 0, 2) = 6
            """);
    }

    private void promise14AtMost1000() {
        runs.each("$v", 6, "promise 14: the kilograms of a vessel in a year, all species together", """
            issue(0, $v, 1000000)
            place(0, $v, 1000000)
            issue(1, $v, 500000)
            place(1, $v, 500000)
            issue(1, $v+, 500000)
            place(1, $v+, 500000)
            open(9000, 9000, 0, 0)
            land(1, $v, 2, 0, 3000, false) = 0
            land(1, $v+, 2, 0, 3000, false) = 1
            equivalent($v, 2, 0, 600) = 2
            equivalent($v, 2, 1, 401) throws IllegalState
            equivalent($v, 2, 1, 399) = 3
            equivalent($v, 0, 1, 2) throws IllegalState
            equivalent($v, 0, 1, 1) = 4
            equivalent($v, 2, 0, 1) throws IllegalState
            # another vessel, and another year, have their own
            equivalent($v+, 2, 1, 1000) = 5
            equivalent($v+, 2, 1, 1) throws IllegalState
            end()
            open(9000, 9000, 0, 0)
            land(2, $v, 2, 0, 3000, false) = 6
            equivalent($v, 2, 1, 1000) = 7
            equivalent($v, 2, 1, 1) throws IllegalState
            """);
        runs.run("promise 14: the kilograms of the first species are meant", """
            species(0, 10, 1000000)
            issue(1, 0, 1000000)
            place(1, 0, 1000000)
            issue(0, 0, 1000000)
            place(0, 0, 1000000)
            open(100000, 100000, 0, 0)
            land(1, 0, 0, 0, 2000, false)
            equivalent(0, 0, 1, 500) = 1
            event(1, 3) = 5000
            # 500 more can be, although ten times as many are charged
            equivalent(0, 0, 1, 500) = 2
            equivalent(0, 0, 1, 1) throws IllegalState
            """);
        runs.each("$v", 6, "promise 14: only those that count", """
            issue(1, $v, 1000000)
            place(1, $v, 1000000)
            open(0, 9000, 0, 0)
            land(1, $v, 0, 0, 1000, false) = 0
            equivalent($v, 0, 1, 1000) = 1
            land(1, $v, 0, 0, 999, false) = 2
            equivalent($v, 0, 1, 1) throws IllegalState
            strike(0)
            event(1, 2) = 0
            equivalent($v, 0, 1, 1000) throws IllegalState
            equivalent($v, 0, 1, 999) = 3
            land(1, $v, 0, 0, 2, false) = 4
            equivalent($v, 0, 1, 2) throws IllegalState
            equivalent($v, 0, 1, 1) = 5
            event(1, 2) = 0
            about(3) = 4
            """);
    }

    /** What so many kilograms of a species with one value are of a species with another. */
    private void isWorth(int kg, int value, int otherValue, int due) {
        String rows = """
            species(3, VALUE, 1000000)
            species(1, OTHER, 1000000)
            issue(1, 0, 1000000)
            place(1, 0, 1000000)
            open(0, 1000000, 0, 0)
            land(1, 0, 3, 0, 1000, false)
            equivalent(0, 3, 1, KG) = 1
            # the values of later times are not for what was told before
            species(3, 77, 1000000)
            species(1, 7, 1000000)
            land(1, 1, 0, 0, 1, false) = 2
            event(1, 3) = DUE
            account(1, 0, 1, 4) = DUE
            account(1, 0, 3, 4) = REST
            end()
            reopen(1)
            strike(2)
            event(1, 3) = DUE
            account(1, 0, 1, 4) = DUE
            account(1, 0, 3, 4) = REST
            """;
        runs.run("promise 14: " + kg + " of value " + value + " to value " + otherValue, rows
                .replace("VALUE", "" + value)
                .replace("OTHER", "" + otherValue)
                .replace("KG", "" + kg)
                .replace("DUE", "" + due)
                .replace("REST", "" + (1000 - kg)));
    }

    private void promise14ChargedUp() {
        isWorth(1, 1, 1, 1);
        isWorth(1, 1, 2, 1);
        isWorth(2, 1, 2, 1);
        isWorth(3, 1, 2, 2);
        isWorth(1, 1, 1000, 1);
        isWorth(1000, 1, 1000, 1);
        isWorth(999, 1, 1000, 1);
        isWorth(1000, 1, 999, 2);
        isWorth(999, 1, 999, 1);
        isWorth(1000, 999, 1000, 999);
        isWorth(1, 1000, 1, 1000);
        isWorth(1000, 1000, 1, 1000000);
        isWorth(7, 3, 7, 3);
        isWorth(8, 3, 7, 4);
        isWorth(6, 3, 7, 3);
        isWorth(5, 3, 7, 3);
        isWorth(4, 3, 7, 2);
        isWorth(1000, 1000, 1000, 1000);
    }

    private void promise14NoYearIsOpen() {
        runs.run("promise 14: no year is open", """
            issue(1, 0, 1000000)
            place(1, 0, 1000000)
            equivalent(0, 0, 1, 1) throws IllegalState
            open(0, 100, 0, 0)
            land(1, 0, 0, 0, 10, false)
            equivalent(0, 0, 1, 1) = 1
            end()
            equivalent(0, 0, 1, 1) throws IllegalState
            reopen(1)
            # a reopened year takes no equivalents
            equivalent(0, 0, 1, 1) throws IllegalState
            open(0, 100, 0, 0)
            # nothing is charged in year 2 yet
            equivalent(0, 0, 1, 1) throws IllegalState
            land(2, 0, 0, 0, 10, false) = 2
            equivalent(0, 0, 1, 1) = 3
            event(3, 1) = 2
            """);
    }

    private static final String FULL = """
        issue(0, 0, 1000000)
        place(0, 0, 1000000)
        issue(1, 0, 1000000)
        place(1, 0, 1000000)
        open(100000, 100000, 0, 0)
        199 times land(1, 0, 0, 0, 1, false)
        """;

    private static final String NO_MORE = """
        about(2) = 200
        land(1, 0, 0, 0, 1, false) throws IllegalState
        lease(0, 0, 1, 1) throws IllegalState
        equivalent(0, 0, 1, 1) throws IllegalState
        event(199, 1) = 1
        event(200, 0) throws IndexOutOfBounds
        # IllegalArgumentException is named first
        land(1, 0, 0, 0, 0, false) throws IllegalArgument
        lease(0, 0, 0, 1) throws IllegalArgument
        equivalent(0, 0, 0, 1) throws IllegalArgument
        """;

    private void promises12To14Full() {
        runs.run("promise 12: the 200th event is a lease, and there is no other", FULL + """
            about(2) = 199
            lease(0, 0, 1, 1) = 199
            event(199, 0) = 0
            """ + NO_MORE);
        runs.run("promise 13: the 200th event is a landing, and there is no other", FULL + """
            land(1, 0, 0, 0, 1, false) = 199
            event(199, 0) = 1
            """ + NO_MORE);
        runs.run("promise 14: the 200th event is an equivalent, and there is no other", FULL + """
            equivalent(0, 0, 1, 1) = 199
            event(199, 0) = 2
            """ + NO_MORE);
        runs.run("promises 12 to 14: what is struck, or doesn't count, makes no room", FULL + """
            equivalent(0, 0, 1, 199) = 199
            strike(7)
            event(199, 2) = 0
            about(2) = 200
            about(3) = 198
            land(1, 0, 0, 0, 1, false) throws IllegalState
            lease(0, 0, 1, 1) throws IllegalState
            equivalent(0, 0, 1, 1) throws IllegalState
            """);
        runs.run("promises 12 to 14: full in a later year, and in a reopened one", FULL + """
            end()
            open(100000, 100000, 0, 0)
            land(2, 0, 0, 0, 5, false) = 199
            land(2, 0, 0, 0, 1, false) throws IllegalState
            lease(0, 0, 1, 1) throws IllegalState
            equivalent(0, 0, 1, 1) throws IllegalState
            reopen(1)
            land(1, 0, 0, 0, 1, false) throws IllegalState
            strike(198)
            account(1, 0, 0, 4) = 198
            about(3) = 199
            """);
    }

    private void promise20Event() {
        runs.run("promise 20: no event yet, and just those that were told", """
            event(0, 0) throws IndexOutOfBounds
            event(-1, 0) throws IndexOutOfBounds
            open(0, 0, 0, 0)
            event(0, 0) throws IndexOutOfBounds
            land(1, 0, 0, 0, 1, false) = 0
            event(-1, 0) throws IndexOutOfBounds
            event(0, 0) = 1
            event(1, 0) throws IndexOutOfBounds
            event(199, 0) throws IndexOutOfBounds
            event(200, 0) throws IndexOutOfBounds
            event(MIN, 0) throws IndexOutOfBounds
            event(MAX, 0) throws IndexOutOfBounds
            land(1, 0, 0, 0, 1, false) = 1
            event(1, 0) = 1
            event(2, 0) throws IndexOutOfBounds
            """);
        runs.run("promise 20: what 0 .. 3", """
            open(0, 0, 0, 0)
            land(1, 0, 0, 0, 9, false) = 0
            event(0, -1) throws IllegalArgument
            event(0, 0) = 1
            event(0, 1) = 1
            event(0, 2) = 1
            event(0, 3) = 9
            event(0, 4) throws IllegalArgument
            event(0, MIN) throws IllegalArgument
            event(0, MAX) throws IllegalArgument
            """);
        runs.run("promise 20: IndexOutOfBoundsException is named first", """
            event(0, 4) throws IndexOutOfBounds
            open(0, 0, 0, 0)
            land(1, 0, 0, 0, 9, false) = 0
            event(1, 4) throws IndexOutOfBounds
            event(-1, -1) throws IndexOutOfBounds
            event(0, 4) throws IllegalArgument
            """);
        runs.run("promise 20: kinds 0, 1 and 2, with what they lease or charge", """
            issue(1, 0, 1000000)
            place(1, 0, 1000000)
            species(0, 3, 1000000)
            species(1, 2, 1000000)
            open(0, 100, 0, 0)
            lease(1, 0, 1, 7) = 0
            factor(0, 0, 1500)
            land(1, 0, 0, 0, 5, false) = 1
            land(1, 0, 0, 0, 5, true) = 2
            equivalent(0, 0, 1, 3) = 3
            event(0, 0) = 0
            event(0, 3) = 7
            event(1, 0) = 1
            event(1, 3) = 8
            event(2, 0) = 1
            event(2, 3) = 4
            event(3, 0) = 2
            event(3, 3) = 5
            strike(1)
            event(1, 2) = 0
            event(1, 0) = 1
            event(1, 1) = 1
            event(2, 2) = 1
            event(3, 2) = 1
            """);
    }

    private void promise21About() {
        runs.run("promise 21: what 0 .. 3", """
            about(-1) throws IllegalArgument
            about(4) throws IllegalArgument
            about(MIN) throws IllegalArgument
            about(MAX) throws IllegalArgument
            about(0) = 0
            about(3) = 0
            open(0, 0, 0, 0)
            land(1, 0, 0, 0, 9, false) = 0
            about(-1) throws IllegalArgument
            about(0) = 1
            about(1) = 1
            about(2) = 1
            about(3) = 1
            about(4) throws IllegalArgument
            """);
        runs.run("promise 21: from no year to the end of the first, and all that was struck", """
            about(0) = 0
            about(1) = 0
            open(0, 0, 0, 0)
            about(0) = 1
            about(1) = 1
            land(1, 0, 0, 0, 9, false)
            land(1, 0, 0, 0, 9, false)
            about(2) = 2
            about(3) = 2
            strike(0)
            strike(1)
            about(2) = 2
            about(3) = 0
            end()
            about(0) = 1
            about(1) = 0
            reopen(1)
            about(0) = 1
            about(1) = 0
            land(1, 0, 0, 0, 9, false)
            about(2) = 3
            about(3) = 1
            """);
        runs.run("promise 21: 200 events that all count", """
            open(0, 0, 0, 0)
            200 times land(1, 0, 0, 0, 1, false)
            about(2) = 200
            about(3) = 200
            strike(199)
            strike(0)
            about(2) = 200
            about(3) = 198
            """);
    }

    private void promises1To21OfThe512Calls() {
        runs.run("promises 1 to 21: the 512th call is answered like any other", """
            issue(0, 0, 1000)
            300 times place(0, 0, 2)
            open(1000000, 0, 0, 0) = 1
            200 times land(1, 0, 0, 0, 1, false)
            account(1, 0, 0, 0) = 600
            account(1, 0, 0, 4) = 200
            strike(100)
            account(1, 0, 0, 5) = 401
            end() = 0
            account(1, 0, 0, 6) = 90
            open(0, 0, 0, 0) = 2
            about(3) = 199
            held(0, 0, 1) = 400
            account(2, 0, 0, 2) = 90
            """);
    }
}
