/** The boundary cases of promises 15 and 16, and of the years that are worked anew. */
public final class ReopenBoundsTest {
    private static final String ALL_ON_VESSEL_0 = """
        issue(0, 0, 1000000)
        place(0, 0, 1000000)
        issue(1, 0, 1000000)
        place(1, 0, 1000000)
        issue(2, 0, 1000000)
        place(2, 0, 1000000)
        """;

    private final Runs runs = new Runs();

    public static void main(String[] args) {
        ReopenBoundsTest test = new ReopenBoundsTest();
        test.promise15Events();
        test.promise15LandingsAlone();
        test.promise15OpenOrReopened();
        test.promise15WorksTheYearAnew();
        test.promise16Years();
        test.promise16OpenOrReopened();
        test.promise16LandingsComeLast();
        test.promise16LeasesThatJustCount();
        test.promise16EquivalentsThatJustCount();
        test.promise16EquivalentsOf1000();
        test.promise16OneThatCountsAgain();
        test.promise16ThroughEightYears();
        test.promise16EarlierYearsAndAllotmentsStay();
        test.promise16Levies();
        test.runs.finish();
    }

    private void promise15Events() {
        runs.run("promise 15: no event yet, and just those that were told", """
            strike(0) throws IndexOutOfBounds
            strike(-1) throws IndexOutOfBounds
            open(0, 0, 0, 0)
            strike(0) throws IndexOutOfBounds
            land(1, 0, 0, 0, 5, false) = 0
            land(1, 0, 0, 0, 6, false) = 1
            strike(-1) throws IndexOutOfBounds
            strike(2) throws IndexOutOfBounds
            strike(199) throws IndexOutOfBounds
            strike(200) throws IndexOutOfBounds
            strike(MIN) throws IndexOutOfBounds
            strike(MAX) throws IndexOutOfBounds
            strike(1)
            account(1, 0, 0, 4) = 5
            strike(0)
            account(1, 0, 0, 4) = 0
            """);
        runs.run("promise 15: the first and the last of 200", """
            open(0, 0, 0, 0)
            200 times land(1, 0, 0, 0, 1, false)
            strike(200) throws IndexOutOfBounds
            strike(199)
            strike(199) throws IllegalState
            strike(0)
            strike(0) throws IllegalState
            account(1, 0, 0, 4) = 198
            """);
    }

    private void promise15LandingsAlone() {
        runs.run("promise 15: it isn't a landing", ALL_ON_VESSEL_0 + """
            open(100, 100, 0, 0)
            lease(0, 0, 1, 10) = 0
            land(1, 0, 0, 0, 10, false) = 1
            equivalent(0, 0, 1, 10) = 2
            strike(0) throws IllegalState
            strike(2) throws IllegalState
            strike(1)
            # nor is one that doesn't count any more
            event(2, 2) = 0
            strike(2) throws IllegalState
            """);
        runs.run("promise 15: it was struck before", """
            open(0, 0, 0, 0)
            land(1, 0, 0, 0, 5, false) = 0
            land(1, 0, 0, 0, 5, false) = 1
            strike(0)
            strike(0) throws IllegalState
            end()
            strike(0) throws IllegalState
            reopen(1)
            strike(0) throws IllegalState
            strike(1)
            strike(1) throws IllegalState
            about(3) = 0
            """);
    }

    private void promise15OpenOrReopened() {
        runs.run("promise 15: its year is open, ended, reopened", """
            open(0, 0, 0, 0)
            3 times land(1, 0, 0, 0, 1, false)
            strike(0)
            end()
            strike(1) throws IllegalState
            open(0, 0, 0, 0)
            land(2, 0, 0, 0, 1, false) = 3
            land(2, 0, 0, 0, 1, false) = 4
            strike(1) throws IllegalState
            strike(3)
            reopen(1)
            strike(1)
            end()
            strike(2)
            strike(4) throws IllegalState
            account(1, 0, 0, 4) = 0
            account(2, 0, 0, 4) = 1
            """);
        runs.run("promise 15: one that was told late", """
            open(0, 0, 0, 0)
            end()
            reopen(1)
            land(1, 0, 0, 0, 5, false) = 0
            account(1, 0, 0, 8) = 5
            strike(0)
            strike(0) throws IllegalState
            account(1, 0, 0, 8) = 0
            event(0, 2) = 0
            """);
    }

    private void promise15WorksTheYearAnew() {
        runs.run("promise 15: events of the open year, in their order", ALL_ON_VESSEL_0 + """
            open(100, 100, 0, 0)
            land(1, 0, 0, 0, 10, false) = 0
            equivalent(0, 0, 1, 10) = 1
            land(1, 0, 0, 0, 10, false) = 2
            strike(0)
            # what is landed behind the equivalent is not charged then
            event(1, 2) = 0
            account(1, 0, 0, 4) = 10
            account(1, 0, 1, 4) = 0
            about(3) = 1
            """);
        runs.run("promise 15: just so many are charged still, or one less", ALL_ON_VESSEL_0 + """
            open(100, 100, 0, 0)
            land(1, 0, 0, 0, 10, false) = 0
            land(1, 0, 0, 0, 9, false) = 1
            land(1, 0, 0, 0, 1, false) = 2
            equivalent(0, 0, 1, 10) = 3
            strike(0)
            event(3, 2) = 1
            account(1, 0, 0, 4) = 0
            strike(2)
            event(3, 2) = 0
            account(1, 0, 0, 4) = 9
            account(1, 0, 1, 4) = 0
            """);
        runs.run("promise 15: one that doesn't count leaves what the next one needs", ALL_ON_VESSEL_0 + """
            open(100, 100, 0, 0)
            land(1, 0, 0, 0, 20, false) = 0
            land(1, 0, 0, 0, 10, false) = 1
            equivalent(0, 0, 1, 20) = 2
            equivalent(0, 0, 1, 10) = 3
            strike(0)
            event(2, 2) = 0
            event(3, 2) = 1
            account(1, 0, 0, 4) = 0
            account(1, 0, 1, 4) = 10
            """);
        runs.run("promise 15: a lease of what an equivalent had taken away from the charged", ALL_ON_VESSEL_0 + """
            open(100, 100, 0, 0)
            land(1, 0, 0, 0, 40, false) = 0
            land(1, 0, 1, 0, 30, false) = 1
            equivalent(0, 0, 1, 40) = 2
            lease(0, 0, 1, 100) = 3
            account(1, 0, 0, 5) = 0
            # neither 40 charged nor moved: 100 are left all the same
            strike(0)
            event(2, 2) = 0
            event(3, 2) = 1
            account(1, 0, 0, 5) = 0
            account(1, 0, 1, 5) = 70
            """);
        runs.run("promise 15: a lease that no longer counts, as the equivalent before it doesn't", ALL_ON_VESSEL_0 + """
            open(100, 100, 100, 0)
            land(1, 0, 0, 0, 40, false) = 0
            land(1, 0, 2, 0, 40, false) = 1
            equivalent(0, 0, 2, 40) = 2
            equivalent(0, 2, 1, 80) = 3
            lease(2, 0, 1, 100) = 4
            strike(0)
            event(2, 2) = 0
            # of 80 only 40 are charged; so 60 are left, not 100
            event(3, 2) = 0
            event(4, 2) = 0
            account(1, 0, 2, 5) = 60
            account(1, 1, 2, 1) = 0
            about(3) = 1
            """);
    }

    private void promise16Years() {
        runs.run("promise 16: a year that there was", """
            reopen(-1) throws IllegalArgument
            reopen(0) throws IllegalArgument
            reopen(1) throws IllegalArgument
            open(0, 0, 0, 0)
            reopen(0) throws IllegalArgument
            reopen(2) throws IllegalArgument
            reopen(8) throws IllegalArgument
            reopen(9) throws IllegalArgument
            reopen(MIN) throws IllegalArgument
            reopen(MAX) throws IllegalArgument
            end()
            reopen(2) throws IllegalArgument
            reopen(0) throws IllegalArgument
            reopen(1)
            """);
        runs.run("promise 16: all eight, and no ninth", Runs.SEVEN_YEARS + """
            reopen(8) throws IllegalArgument
            open(0, 0, 0, 0)
            reopen(8) throws IllegalState
            end()
            reopen(9) throws IllegalArgument
            reopen(0) throws IllegalArgument
            reopen(8)
            reopen(7)
            reopen(6)
            reopen(5)
            reopen(4)
            reopen(3)
            reopen(2)
            reopen(1)
            reopen(8) throws IllegalState
            reopen(1) throws IllegalState
            reopen(9) throws IllegalArgument
            land(8, 0, 0, 0, 8, false) = 0
            land(1, 0, 0, 0, 1, false) = 1
            land(9, 0, 0, 0, 1, false) throws IllegalArgument
            event(0, 1) = 8
            event(1, 1) = 1
            account(8, 0, 0, 8) = 8
            account(1, 0, 0, 8) = 1
            account(2, 0, 0, 8) = 0
            """);
    }

    private void promise16OpenOrReopened() {
        runs.run("promise 16: the present year counts as reopened, as long as it is open", """
            open(0, 0, 0, 0)
            reopen(1) throws IllegalState
            land(1, 0, 0, 0, 1, false) = 0
            reopen(1) throws IllegalState
            end()
            land(1, 0, 0, 0, 1, false) throws IllegalState
            strike(0) throws IllegalState
            reopen(1)
            reopen(1) throws IllegalState
            strike(0)
            """);
        runs.run("promise 16: one year reopened is no other", """
            open(0, 0, 0, 0)
            land(1, 0, 0, 0, 1, false) = 0
            end()
            open(0, 0, 0, 0)
            land(2, 0, 0, 0, 1, false) = 1
            end()
            open(0, 0, 0, 0)
            land(3, 0, 0, 0, 1, false) = 2
            reopen(2)
            reopen(2) throws IllegalState
            reopen(3) throws IllegalState
            strike(0) throws IllegalState
            land(1, 0, 0, 0, 1, false) throws IllegalState
            strike(1)
            strike(2)
            reopen(1)
            strike(0)
            end()
            # year 2 is reopened still, year 3 is not
            reopen(2) throws IllegalState
            land(3, 0, 0, 0, 1, false) throws IllegalState
            land(2, 0, 0, 0, 1, false) = 3
            """);
        runs.run("promise 16: to reopen a year changes no figure of it", ALL_ON_VESSEL_0 + """
            open(100, 100, 0, 0)
            land(1, 0, 1, 0, 110, false)
            end() = 1
            reopen(1)
            account(1, 0, 0, 6) = 15
            account(1, 0, 1, 7) = 5
            account(1, 0, 1, 8) = 5
            about(1) = 0
            open(100, 100, 0, 0) = 2
            account(2, 0, 0, 2) = 15
            account(2, 0, 1, 3) = 5
            """);
    }

    private void promise16LandingsComeLast() {
        runs.run("promise 16: landings are told behind all events of the year", ALL_ON_VESSEL_0 + """
            open(100, 100, 0, 0)
            land(1, 0, 1, 0, 30, false) = 0
            lease(0, 0, 1, 70) = 1
            equivalent(0, 1, 0, 30) = 2
            end() = 0
            reopen(1)
            land(1, 0, 0, 0, 1, false) = 3
            # lease and equivalent had used all that was left, and count
            event(1, 2) = 1
            event(2, 2) = 1
            account(1, 0, 0, 4) = 31
            account(1, 0, 0, 5) = -1
            account(1, 0, 0, 7) = 1
            account(1, 1, 0, 1) = 70
            """);
        runs.run("promise 16: but before the events of the next year, whichever was told first", ALL_ON_VESSEL_0 + """
            open(100, 0, 0, 0)
            land(1, 0, 0, 0, 100, false) = 0
            end()
            open(100, 0, 0, 0)
            lease(0, 0, 1, 100) = 1
            reopen(1)
            land(1, 0, 0, 0, 1, false) = 2
            event(2, 1) = 1
            # one is taken off, so that 100 are not left
            account(2, 0, 0, 3) = 1
            event(1, 2) = 0
            account(2, 0, 0, 5) = 99
            account(2, 1, 0, 5) = 0
            about(3) = 2
            """);
    }

    private void promise16LeasesThatJustCount() {
        runs.run("promise 16: a lease of all that is left, with what is banked", ALL_ON_VESSEL_0 + """
            open(100, 0, 0, 0)
            land(1, 5, 3, 0, 1, false) = 0
            end()
            open(100, 0, 0, 0)
            lease(0, 0, 1, 115) = 1
            reopen(1)
            # 15 are left in year 1, and so banked
            land(1, 0, 0, 0, 85, false) = 2
            event(1, 2) = 1
            account(2, 0, 0, 2) = 15
            # 14 are
            land(1, 0, 0, 0, 1, false) = 3
            event(1, 2) = 0
            account(2, 0, 0, 2) = 14
            account(2, 0, 0, 1) = 0
            account(2, 1, 0, 1) = 0
            account(2, 0, 0, 5) = 114
            about(3) = 3
            strike(3)
            event(1, 2) = 1
            account(2, 0, 0, 5) = 0
            account(2, 1, 0, 1) = 115
            about(2) = 4
            about(3) = 3
            """);
        runs.run("promise 16: leases that hang on one another", ALL_ON_VESSEL_0 + """
            open(100, 0, 0, 0)
            end()
            open(100, 0, 0, 0)
            lease(0, 0, 1, 115) = 0
            lease(0, 1, 2, 115) = 1
            lease(0, 2, 5, 115) = 2
            reopen(1)
            land(1, 0, 0, 0, 86, false) = 3
            event(0, 2) = 0
            event(1, 2) = 0
            event(2, 2) = 0
            account(2, 5, 0, 5) = 0
            strike(3)
            event(0, 2) = 1
            event(1, 2) = 1
            event(2, 2) = 1
            account(2, 5, 0, 5) = 115
            account(2, 1, 0, 1) = 0
            """);
    }

    private void promise16EquivalentsThatJustCount() {
        runs.run("promise 16: an equivalent of all that is left to the second", ALL_ON_VESSEL_0 + """
            open(0, 100, 0, 0)
            end()
            open(0, 100, 0, 0)
            land(2, 0, 0, 0, 200, false) = 0
            equivalent(0, 0, 1, 115) = 1
            reopen(1)
            land(1, 0, 1, 0, 85, false) = 2
            event(1, 2) = 1
            land(1, 0, 1, 0, 1, false) = 3
            event(1, 2) = 0
            event(1, 3) = 115
            account(2, 0, 0, 4) = 200
            account(2, 0, 1, 4) = 0
            strike(2)
            event(1, 2) = 1
            account(2, 0, 0, 4) = 85
            account(2, 0, 1, 5) = 0
            """);
        runs.run("promise 16: equivalents that hang on one another", ALL_ON_VESSEL_0 + """
            open(0, 100, 100, 0)
            end()
            open(0, 100, 100, 0)
            land(2, 0, 0, 0, 200, false) = 0
            equivalent(0, 0, 1, 110) = 1
            equivalent(0, 1, 2, 110) = 2
            reopen(1)
            land(1, 0, 1, 0, 91, false) = 3
            event(1, 2) = 0
            # nothing is charged to species 1 then
            event(2, 2) = 0
            account(2, 0, 2, 4) = 0
            strike(3)
            land(1, 0, 2, 0, 91, false) = 4
            event(1, 2) = 1
            event(2, 2) = 0
            account(2, 0, 1, 4) = 110
            strike(4)
            event(2, 2) = 1
            account(2, 0, 1, 4) = 0
            account(2, 0, 2, 4) = 110
            """);
    }

    private void promise16EquivalentsOf1000() {
        String rows = ALL_ON_VESSEL_0 + """
            open(0, 2000, 2000, 0)
            end()
            open(0, 2000, 2000, 0)
            land(2, 0, 1, 0, 1900, false) = 0
            land(2, 0, 0, 0, 2000, false) = 1
            equivalent(0, 0, 1, 400) = 2
            reopen(1)
            land(1, 0, 1, 0, 2000, false) = 3
            event(2, 2) = 0
            equivalent(0, 0, 2, SECOND) = 4
            strike(3)
            # the first one counts again, and is worked first
            event(2, 2) = 1
            """;
        runs.run("promise 16: together just 1000 when both count", rows.replace("SECOND", "600") + """
            event(4, 2) = 1
            account(2, 0, 0, 4) = 1000
            account(2, 0, 1, 4) = 2300
            account(2, 0, 2, 4) = 600
            """);
        runs.run("promise 16: together 1001 if both counted", rows.replace("SECOND", "601") + """
            event(4, 2) = 0
            account(2, 0, 0, 4) = 1600
            account(2, 0, 1, 4) = 2300
            account(2, 0, 2, 4) = 0
            equivalent(0, 0, 2, 601) throws IllegalState
            equivalent(0, 0, 2, 600) = 5
            """);
    }

    private void promise16OneThatCountsAgain() {
        runs.run("promise 16: a lease that counts again leaves nothing to one told later", ALL_ON_VESSEL_0 + """
            open(100, 0, 0, 0)
            end()
            open(100, 0, 0, 0)
            lease(0, 0, 1, 110) = 0
            reopen(1)
            land(1, 0, 0, 0, 100, false) = 1
            event(0, 2) = 0
            lease(0, 0, 2, 100) = 2
            about(3) = 2
            strike(1)
            event(0, 2) = 1
            event(2, 2) = 0
            account(2, 0, 0, 5) = 5
            account(2, 1, 0, 1) = 110
            account(2, 2, 0, 1) = 0
            about(3) = 1
            """);
    }

    private void promise16ThroughEightYears() {
        StringBuilder years = new StringBuilder("open(100, 0, 0, 0) = 1\nend()\n");
        for (int year = 2; year <= 8; year++) {
            int kg = year < 8 ? 100 : 115;
            years.append("open(100, 0, 0, 0) = %d%nland(%d, 0, 0, 0, %d, false)%nend() = 0%n".formatted(year, year, kg));
        }
        runs.run("promise 16: what the first year banks or advances goes to the eighth", ALL_ON_VESSEL_0 + years + """
            account(8, 0, 0, 5) = 0
            reopen(1)
            land(1, 0, 0, 0, 85, false) = 7
            account(8, 0, 0, 5) = 0
            land(1, 0, 0, 0, 1, false) = 8
            account(2, 0, 0, 2) = 14
            account(7, 0, 0, 5) = 14
            account(8, 0, 0, 2) = 14
            account(8, 0, 0, 5) = -1
            account(8, 0, 0, 7) = 1
            account(8, 0, 0, 8) = 0
            land(1, 0, 0, 0, 15, false) = 9
            # one is over in years 1 to 7
            account(1, 0, 0, 7) = 1
            account(2, 0, 0, 2) = 0
            account(2, 0, 0, 3) = 1
            account(7, 0, 0, 7) = 1
            account(8, 0, 0, 3) = 1
            account(8, 0, 0, 5) = -16
            account(8, 0, 0, 7) = 5
            account(8, 0, 0, 8) = 11
            levy(0, 8) = 11
            levy(0, 7) = 0
            strike(7)
            strike(8)
            strike(9)
            account(8, 0, 0, 2) = 15
            account(8, 0, 0, 3) = 0
            account(8, 0, 0, 5) = 0
            account(8, 0, 0, 7) = 0
            levy(0, 8) = 0
            """);
    }

    private void promise16EarlierYearsAndAllotmentsStay() {
        runs.run("promise 16: years before the changed one, and allotments, stay", ALL_ON_VESSEL_0 + """
            open(100, 0, 0, 0)
            land(1, 0, 0, 0, 106, false) = 0
            end() = 1
            open(100, 0, 0, 0)
            end() = 0
            open(100, 0, 0, 0)
            place(0, 0, -900000)
            reopen(2)
            land(2, 0, 0, 0, 94, false) = 1
            account(1, 0, 0, 4) = 106
            account(1, 0, 0, 7) = 5
            account(1, 0, 0, 8) = 1
            account(2, 0, 0, 0) = 100
            account(2, 0, 0, 3) = 5
            account(2, 0, 0, 6) = 1
            account(3, 0, 0, 0) = 100
            account(3, 0, 0, 2) = 1
            # year 3 is open still: nothing of it is settled
            account(3, 0, 0, 6) = 0
            end() = 0
            account(3, 0, 0, 6) = 15
            open(100, 0, 0, 0)
            account(4, 0, 0, 0) = 10
            account(4, 0, 0, 2) = 15
            strike(1)
            account(2, 0, 0, 6) = 15
            account(3, 0, 0, 2) = 15
            account(4, 0, 0, 0) = 10
            """);
        runs.run("promise 16: no year after the latest gets anything yet", ALL_ON_VESSEL_0 + """
            open(100, 0, 0, 0)
            end()
            reopen(1)
            land(1, 0, 0, 0, 103, false) = 0
            account(1, 0, 0, 7) = 3
            account(2, 0, 0, 3) throws IllegalArgument
            strike(0)
            land(1, 0, 0, 0, 99, false) = 1
            open(100, 0, 0, 0)
            account(2, 0, 0, 2) = 1
            account(2, 0, 0, 3) = 0
            """);
    }

    private void promise16Levies() {
        runs.run("promise 16: what is levied is worked anew", ALL_ON_VESSEL_0 + """
            species(0, 4, 1000000)
            open(100, 0, 0, 0)
            end() = 0
            reopen(1)
            land(1, 0, 0, 0, 105, false) = 0
            account(1, 0, 0, 7) = 5
            levy(0, 1) = 0
            land(1, 0, 0, 0, 1, false) = 1
            levy(0, 1) = 4
            land(1, 3, 0, 0, 1, false) = 2
            levy(3, 1) = 4
            strike(1)
            levy(0, 1) = 0
            open(0, 0, 0, 0)
            # 5 are taken off of nothing
            end() = 1
            levy(0, 2) = 20
            strike(0)
            levy(0, 2) = 0
            account(2, 0, 0, 2) = 15
            levy(3, 1) = 4
            """);
        runs.run("promise 16: landings of undersized fish and by other factors", ALL_ON_VESSEL_0 + """
            open(100, 0, 0, 0)
            factor(0, 2, 1500)
            end() = 0
            reopen(1)
            land(1, 0, 0, 2, 67, false) = 0
            # 100.5 and so 101
            event(0, 3) = 101
            account(1, 0, 0, 7) = 1
            land(1, 0, 0, 2, 67, true) = 1
            event(1, 3) = 51
            account(1, 0, 0, 5) = -52
            account(1, 0, 0, 8) = 47
            """);
    }
}
