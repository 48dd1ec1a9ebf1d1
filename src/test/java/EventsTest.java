/** Promises 12 to 14, 20 and 21 with ordinary inputs: leases, landings, equivalents, what is told of them. */
public final class EventsTest {
    private static final String OPENED = """
        issue(0, 0, 500000)
        place(0, 0, 500000)
        issue(0, 1, 500000)
        place(0, 1, 500000)
        issue(1, 0, 1000000)
        place(1, 0, 1000000)
        open(4000, 2000, 0, 0)
        """;
    private static final String ALL_KINDS = OPENED + """
        species(0, 3, 1000000)
        factor(0, 1, 2000)
        lease(0, 0, 1, 250) = 0
        land(1, 0, 0, 1, 41, true) = 1
        equivalent(0, 0, 1, 12) = 2
        end()
        open(4000, 2000, 0, 0)
        land(2, 2, 2, 0, 9, false) = 3
        """;

    private final Runs runs = new Runs();

    public static void main(String[] args) {
        EventsTest test = new EventsTest();
        test.promise12();
        test.promise13();
        test.promise14();
        test.promise20();
        test.promise21();
        test.runs.finish();
    }

    private void promise12() {
        runs.run("promise 12: leases there, back and on", OPENED + """
            lease(0, 0, 5, 1500) = 0
            account(1, 0, 0, 1) = -1500
            account(1, 5, 0, 1) = 1500
            account(1, 0, 0, 5) = 500
            lease(0, 5, 1, 400) = 1
            account(1, 5, 0, 1) = 1100
            account(1, 1, 0, 5) = 2400
            lease(0, 1, 0, 2400) = 2
            account(1, 0, 0, 1) = 900
            account(1, 0, 1, 1) = 0
            """);
    }

    private void promise13() {
        runs.run("promise 13: landings by live weight, whole and undersized", OPENED + """
            factor(0, 1, 1235)
            land(1, 0, 0, 1, 100, false) = 0
            land(1, 0, 0, 1, 98, true) = 1
            land(1, 0, 0, 0, 30, false) = 2
            event(0, 3) = 124
            event(1, 3) = 61
            account(1, 0, 0, 4) = 215
            account(1, 0, 0, 5) = 1785
            account(1, 1, 0, 4) = 0
            """);
    }

    private void promise14() {
        runs.run("promise 14: kilograms go to another species by value, and back", OPENED + """
            species(0, 3, 1000000)
            species(1, 7, 1000000)
            land(1, 0, 0, 0, 500, false) = 0
            equivalent(0, 0, 1, 400) = 1
            event(1, 3) = 172
            account(1, 0, 0, 4) = 100
            account(1, 0, 1, 4) = 172
            account(1, 0, 1, 5) = 1828
            equivalent(0, 1, 0, 20) = 2
            event(2, 3) = 47
            account(1, 0, 0, 4) = 147
            account(1, 0, 1, 4) = 152
            account(1, 0, 0, 1) = 0
            """);
    }

    private void promise20() {
        runs.run("promise 20: what is told of all kinds of events", ALL_KINDS + """
            event(0, 0) = 0
            event(0, 1) = 1
            event(0, 2) = 1
            event(0, 3) = 250
            event(1, 0) = 1
            event(1, 3) = 41
            event(2, 0) = 2
            event(2, 3) = 36
            event(3, 0) = 1
            event(3, 1) = 2
            event(3, 2) = 1
            strike(3)
            event(3, 2) = 0
            # a landing's live weight is what it was
            event(3, 3) = 9
            """);
    }

    private void promise21() {
        runs.run("promise 21: years and events, also such as don't count", ALL_KINDS + """
            about(0) = 2
            about(1) = 1
            about(2) = 4
            about(3) = 4
            strike(3)
            about(2) = 4
            about(3) = 3
            end()
            about(0) = 2
            about(1) = 0
            """);
    }
}
