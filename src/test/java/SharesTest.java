/** Promises 1 to 9 and 19 with ordinary inputs: species, factors, vessels, links, parts. */
public final class SharesTest {
    private final Runs runs = new Runs();

    public static void main(String[] args) {
        SharesTest test = new SharesTest();
        test.promises1To4();
        test.promises5And6();
        test.promises7To9();
        test.promise19();
        test.runs.finish();
    }

    private void promises1To4() {
        runs.run("promise 1: a new object takes what it is told", """
            about(0) = 0
            issue(2, 4, 300000) = 300000
            place(2, 4, 200000) = 200000
            open(0, 0, 1000, 0) = 1
            account(1, 4, 2, 0) = 200
            land(1, 4, 2, 1, 250, false) = 0
            event(0, 3) = 250
            end() = 1
            levy(4, 1) = 40
            """);
        runs.run("promise 2: value and cap", """
            species(0, 7, 10)
            species(3, 40, 1000000)
            issue(0, 0, 10) = 10
            issue(0, 1, 12) throws IllegalState
            open(0, 0, 0, 0)
            land(1, 0, 0, 0, 3, false)
            land(1, 0, 3, 0, 2, false)
            end() = 2
            levy(0, 1) = 101
            species(0, 9, 1000)
            levy(0, 1) = 107
            """);
        runs.run("promise 3: factors of species and forms", """
            factor(3, 2, 1130)
            factor(1, 1, 0)
            factor(1, 0, 2750)
            open(0, 0, 0, 0)
            land(1, 0, 3, 2, 200, false) = 0
            land(1, 0, 3, 1, 200, false) = 1
            land(1, 0, 1, 0, 200, false) = 2
            land(1, 0, 1, 1, 200, false) throws IllegalArgument
            factor(1, 1, 1500)
            land(1, 0, 1, 1, 200, false) = 3
            event(0, 3) = 226
            event(1, 3) = 200
            event(2, 3) = 550
            event(3, 3) = 300
            """);
        runs.run("promise 4: a vessel goes from owner to owner", """
            issue(3, 0, 10)
            issue(3, 1, 7)
            vessel(5, 0)
            place(3, 5, 4) = 4
            place(3, 0, 6) = 6
            vessel(5, 1) throws IllegalState
            place(3, 5, -4) = 0
            vessel(5, 1)
            place(3, 5, 7) = 7
            held(3, 0, 1) = 4
            held(3, 1, 1) = 0
            place(3, 0, 4) = 10
            """);
    }

    private void promises5And6() {
        String parts = """
            issue(1, 0, 1)
            issue(1, 1, 2)
            issue(1, 2, 4)
            issue(1, 3, 8)
            issue(1, 4, 16)
            issue(1, 5, 32)
            """;
        runs.run("promise 5: a group is all that hang together", parts + """
            link(5, 2)
            link(2, 4)
            link(0, 3)
            held(1, 4, 2) = 52
            held(1, 5, 2) = 52
            held(1, 0, 2) = 9
            held(1, 1, 2) = 2
            link(4, 0)
            held(1, 5, 2) = 61
            held(1, 3, 2) = 61
            species(1, 1, 62)
            link(1, 5) throws IllegalState
            species(1, 1, 63)
            link(1, 5)
            held(1, 1, 2) = 63
            """);
        runs.run("promise 6: a ring that is cut once still hangs together", parts + """
            link(0, 1)
            link(1, 2)
            unlink(0, 2) throws IllegalState
            link(2, 0)
            unlink(1, 0)
            held(1, 0, 2) = 7
            held(1, 1, 2) = 7
            unlink(0, 1) throws IllegalState
            unlink(1, 2)
            held(1, 0, 2) = 5
            held(1, 1, 2) = 2
            held(1, 2, 2) = 5
            """);
    }

    private void promises7To9() {
        runs.run("promise 7: parts come piece by piece", """
            issue(0, 0, 100) = 100
            issue(0, 0, 250) = 350
            issue(0, 3, 70) = 70
            issue(1, 0, 5) = 5
            held(0, 0, 0) = 350
            """);
        runs.run("promise 8: parts go from owner to owner", """
            issue(1, 0, 100)
            place(1, 0, 30)
            sell(1, 0, 1, 20)
            held(1, 0, 0) = 80
            held(1, 0, 1) = 50
            held(1, 1, 0) = 20
            sell(1, 1, 4, 15)
            held(1, 1, 0) = 5
            held(1, 4, 0) = 15
            held(0, 4, 0) = 0
            """);
        runs.run("promise 8: round in a group that is at its cap, but not into it", """
            issue(0, 0, 60)
            issue(0, 2, 40)
            issue(0, 4, 100)
            link(0, 1)
            link(1, 2)
            species(0, 1, 100)
            sell(0, 0, 2, 60)
            held(0, 2, 0) = 100
            sell(0, 4, 1, 1) throws IllegalState
            sell(0, 2, 3, 100)
            sell(0, 4, 1, 100)
            held(0, 0, 2) = 100
            held(0, 1, 0) = 100
            """);
        runs.run("promise 9: parts are placed and taken off", """
            issue(0, 2, 100)
            vessel(4, 2)
            place(0, 2, 60) = 60
            place(0, 4, 30) = 30
            place(0, 2, 10) = 70
            held(0, 2, 1) = 0
            place(0, 4, -25) = 5
            held(0, 2, 1) = 25
            held(0, 2, 0) = 100
            """);
    }

    private void promise19() {
        runs.run("promise 19: held, free, and held by the group", """
            issue(2, 1, 100)
            issue(2, 4, 7)
            issue(3, 1, 9)
            vessel(0, 1)
            place(2, 0, 20)
            place(2, 1, 30)
            place(3, 1, 1)
            link(4, 1)
            held(2, 1, 0) = 100
            held(2, 1, 1) = 50
            held(2, 1, 2) = 107
            held(2, 4, 0) = 7
            held(2, 4, 1) = 7
            held(2, 4, 2) = 107
            held(3, 1, 1) = 8
            held(2, 0, 2) = 0
            """);
    }
}
