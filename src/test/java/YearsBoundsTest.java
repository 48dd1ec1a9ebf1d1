/** The boundary cases of promises 10, 11, 17 and 18, and of the terms that they use. */
public final class YearsBoundsTest {
    private final Runs runs = new Runs();

    public static void main(String[] args) {
        YearsBoundsTest test = new YearsBoundsTest();
        test.promise10Limits();
        test.promise10OpenOrFull();
        test.promise10AllotsDown();
        test.promise10GreatestRemainders();
        test.promise10EqualRemainders();
        test.promise10AllotsWhatIsPlaced();
        test.promise11OpenOrNot();
        test.promise11CountsLevies();
        test.promise11Banks();
        test.promise11AdvancesAndLevies();
        test.promise11LeftIsOfAllFigures();
        test.promise11GoesOnToTheNextYear();
        test.promise17Numbers();
        test.promise17WhileTheYearIsOpen();
        test.promise17WhileEachYearIsOpen();
        test.promise17BelowZero();
        test.promise18Numbers();
        test.promise18AsTheyAreNow();
        test.promise18MoreThanAnInt();
        test.runs.finish();
    }

    private void promise10Limits() {
        runs.run("promise 10: each limit 0 .. 1000000", """
            open(-1, 0, 0, 0) throws IllegalArgument
            open(0, -1, 0, 0) throws IllegalArgument
            open(0, 0, -1, 0) throws IllegalArgument
            open(0, 0, 0, -1) throws IllegalArgument
            open(1000001, 0, 0, 0) throws IllegalArgument
            open(0, 1000001, 0, 0) throws IllegalArgument
            open(0, 0, 1000001, 0) throws IllegalArgument
            open(0, 0, 0, 1000001) throws IllegalArgument
            open(MIN, 0, 0, 0) throws IllegalArgument
            open(0, 0, 0, MAX) throws IllegalArgument
            open(0, 0, 0, 0) = 1
            end() = 0
            open(1000000, 1000000, 1000000, 1000000) = 2
            """);
        runs.each("$s", 4, "promise 10: limits of 0 and 1000000 to one vessel with all parts", """
            issue($s, 3, 1000000)
            place($s, 3, 1000000)
            open(0, 0, 0, 0)
            account(1, 3, $s, 0) = 0
            account(1, 3, $s, 5) = 0
            end()
            open(1000000, 1000000, 1000000, 1000000)
            account(2, 3, $s, 0) = 1000000
            account(2, 3, $s+, 0) = 0
            account(2, 2, $s, 0) = 0
            account(1, 3, $s, 0) = 0
            """);
    }

    private void promise10OpenOrFull() {
        runs.run("promise 10: one year at a time", """
            issue(0, 0, 1000000)
            place(0, 0, 1000000)
            issue(3, 0, 1000000)
            place(3, 0, 1000000)
            open(10, 20, 30, 40) = 1
            open(50, 60, 70, 80) throws IllegalState
            about(0) = 1
            account(1, 0, 0, 0) = 10
            account(1, 0, 3, 0) = 40
            end()
            open(10, 20, 30, 40) = 2
            open(0, 0, 0, 0) throws IllegalState
            end()
            reopen(2)
            # a year that is reopened is not open
            open(10, 20, 30, 40) = 3
            """);
        runs.run("promise 10: eight years, and no ninth", """
            issue(0, 0, 1000000)
            place(0, 0, 1000000)
            open(1, 1, 1, 1) = 1
            end()
            open(1, 1, 1, 1) = 2
            end()
            open(1, 1, 1, 1) = 3
            end()
            open(1, 1, 1, 1) = 4
            end()
            open(1, 1, 1, 1) = 5
            end()
            open(1, 1, 1, 1) = 6
            end()
            open(1, 1, 1, 1) = 7
            end()
            open(1, 1, 1, 1) = 8
            open(9, 9, 9, 9) throws IllegalState
            end()
            open(9, 9, 9, 9) throws IllegalState
            account(8, 0, 0, 0) = 1
            about(0) = 8
            about(1) = 0
            reopen(8)
            open(1, 1, 1, 1) throws IllegalState
            # IllegalArgumentException is named first
            open(1, 1, 1, 1000001) throws IllegalArgument
            """);
        runs.run("promise 10: IllegalArgumentException is named first", """
            open(1, 1, 1, 1)
            open(-1, 1, 1, 1) throws IllegalArgument
            open(1, 1, 1, 1000001) throws IllegalArgument
            open(1, 1, 1, 1) throws IllegalState
            """);
    }

    private void promise10AllotsDown() {
        runs.each("$v", 6, "promise 10: one vessel's kilograms, down", """
            issue(0, $v, 999999)
            place(0, $v, 999999)
            issue(1, $v, 1000000)
            place(1, $v, 1000000)
            issue(2, $v, 1)
            place(2, $v, 1)
            issue(3, $v, 500000)
            place(3, $v, 500000)
            # 0.999999, 1, 0.999999, 0.5
            open(1, 1, 999999, 1)
            account(1, $v, 0, 0) = 0
            account(1, $v, 1, 0) = 1
            account(1, $v, 2, 0) = 0
            account(1, $v, 3, 0) = 0
            end()
            # 1.999998, 2, 1, 1.5
            open(2, 2, 1000000, 3)
            account(2, $v, 0, 0) = 1
            account(2, $v, 1, 0) = 2
            account(2, $v, 2, 0) = 1
            account(2, $v, 3, 0) = 1
            """);
        runs.run("promise 10: all vessels together just below a kilogram, or just one", """
            issue(0, 0, 499999)
            place(0, 0, 499999)
            issue(0, 3, 500000)
            place(0, 3, 500000)
            issue(1, 0, 499999)
            place(1, 0, 499999)
            issue(1, 3, 500001)
            place(1, 3, 500001)
            # 0.999999 in all, and 1.000000
            open(1, 1, 0, 0)
            account(1, 0, 0, 0) = 0
            account(1, 3, 0, 0) = 0
            account(1, 0, 1, 0) = 0
            account(1, 3, 1, 0) = 1
            """);
        runs.run("promise 10: none is missing", """
            issue(2, 1, 250000)
            place(2, 1, 250000)
            issue(2, 2, 750000)
            place(2, 2, 750000)
            open(0, 0, 4, 0)
            account(1, 1, 2, 0) = 1
            account(1, 2, 2, 0) = 3
            end()
            # 1.25 and 3.75: one
            open(0, 0, 5, 0)
            account(2, 1, 2, 0) = 1
            account(2, 2, 2, 0) = 4
            """);
    }

    private void promise10GreatestRemainders() {
        runs.run("promise 10: five are missing, the most there can be", """
            issue(0, 0, 166666)
            place(0, 0, 166666)
            issue(0, 1, 166666)
            place(0, 1, 166666)
            issue(0, 2, 166666)
            place(0, 2, 166666)
            issue(0, 3, 166666)
            place(0, 3, 166666)
            issue(0, 4, 166666)
            place(0, 4, 166666)
            issue(0, 5, 166670)
            place(0, 5, 166670)
            # 0.833330 five times, and 0.833350: to 5, and to the least of the others
            open(5, 0, 0, 0)
            account(1, 0, 0, 0) = 1
            account(1, 1, 0, 0) = 1
            account(1, 2, 0, 0) = 1
            account(1, 3, 0, 0) = 1
            account(1, 4, 0, 0) = 0
            account(1, 5, 0, 0) = 1
            end()
            # 1.166662 six times less a little: one is missing, to 5
            open(7, 0, 0, 0)
            account(2, 0, 0, 0) = 1
            account(2, 4, 0, 0) = 1
            account(2, 5, 0, 0) = 2
            """);
        runs.run("promise 10: a remainder greater by a millionth", """
            issue(3, 0, 499999)
            place(3, 0, 499999)
            issue(3, 1, 500001)
            place(3, 1, 500001)
            open(0, 0, 0, 3)
            account(1, 0, 3, 0) = 1
            account(1, 1, 3, 0) = 2
            end()
            open(0, 0, 0, 999999)
            # 499998.500001 and 500000.499999
            account(2, 0, 3, 0) = 499999
            account(2, 1, 3, 0) = 500000
            """);
        runs.run("promise 10: one each, none gets two", """
            issue(1, 0, 450000)
            place(1, 0, 450000)
            issue(1, 4, 300000)
            place(1, 4, 300000)
            issue(1, 2, 250000)
            place(1, 2, 250000)
            # 0.9, 0.6 and 0.5: two are missing
            open(0, 2, 0, 0)
            account(1, 0, 1, 0) = 1
            account(1, 4, 1, 0) = 1
            account(1, 2, 1, 0) = 0
            """);
        runs.run("promise 10: the remainder is looked at, not the kilograms", """
            issue(0, 0, 600000)
            place(0, 0, 600000)
            issue(0, 1, 310000)
            place(0, 1, 310000)
            issue(0, 2, 90000)
            place(0, 2, 90000)
            # 6.0, 3.1 and 0.9
            open(10, 0, 0, 0)
            account(1, 0, 0, 0) = 6
            account(1, 1, 0, 0) = 3
            account(1, 2, 0, 0) = 1
            """);
    }

    private void promise10EqualRemainders() {
        runs.run("promise 10: of equal ones the least vessel", """
            issue(2, 2, 250000)
            place(2, 2, 250000)
            issue(2, 3, 250000)
            place(2, 3, 250000)
            issue(2, 4, 250000)
            place(2, 4, 250000)
            issue(2, 5, 250000)
            place(2, 5, 250000)
            open(0, 0, 1, 0)
            account(1, 0, 2, 0) = 0
            account(1, 2, 2, 0) = 1
            account(1, 3, 2, 0) = 0
            account(1, 4, 2, 0) = 0
            account(1, 5, 2, 0) = 0
            end()
            open(0, 0, 2, 0)
            account(2, 2, 2, 0) = 1
            account(2, 3, 2, 0) = 1
            account(2, 4, 2, 0) = 0
            account(2, 5, 2, 0) = 0
            end()
            open(0, 0, 3, 0)
            account(3, 2, 2, 0) = 1
            account(3, 3, 2, 0) = 1
            account(3, 4, 2, 0) = 1
            account(3, 5, 2, 0) = 0
            end()
            open(0, 0, 4, 0)
            account(4, 2, 2, 0) = 1
            account(4, 5, 2, 0) = 1
            """);
        runs.run("promise 10: equal remainders, but not equal kilograms", """
            issue(0, 0, 300000)
            place(0, 0, 300000)
            issue(0, 1, 100000)
            place(0, 1, 100000)
            issue(0, 2, 600000)
            place(0, 2, 600000)
            issue(1, 0, 100000)
            place(1, 0, 100000)
            issue(1, 1, 300000)
            place(1, 1, 300000)
            issue(1, 2, 600000)
            place(1, 2, 600000)
            # 1.5, 0.5 and 3.0; 0.5, 1.5 and 3.0
            open(5, 5, 0, 0)
            account(1, 0, 0, 0) = 2
            account(1, 1, 0, 0) = 0
            account(1, 2, 0, 0) = 3
            account(1, 0, 1, 0) = 1
            account(1, 1, 1, 0) = 1
            account(1, 2, 1, 0) = 3
            """);
    }

    private void promise10AllotsWhatIsPlaced() {
        runs.run("promise 10: nothing is placed", """
            issue(0, 0, 1000000)
            open(1000000, 1000000, 1000000, 1000000)
            account(1, 0, 0, 0) = 0
            account(1, 5, 3, 0) = 0
            place(0, 0, 1000000)
            # what is placed later is for the next year
            account(1, 0, 0, 0) = 0
            end()
            account(1, 0, 0, 0) = 0
            open(1000000, 0, 0, 0)
            account(2, 0, 0, 0) = 1000000
            place(0, 0, -1000000)
            account(2, 0, 0, 0) = 1000000
            end()
            open(1000000, 0, 0, 0)
            account(3, 0, 0, 0) = 0
            account(2, 0, 0, 0) = 1000000
            """);
        runs.run("promise 10: the vessel gets it, whoever's it is", """
            issue(0, 5, 1000000)
            vessel(0, 5)
            vessel(1, 5)
            place(0, 0, 1)
            place(0, 1, 999999)
            open(1000000, 0, 0, 0)
            account(1, 0, 0, 0) = 1
            account(1, 1, 0, 0) = 999999
            account(1, 5, 0, 0) = 0
            """);
        runs.run("promise 10: each species by its own limit and parts", """
            issue(0, 0, 1000000)
            place(0, 0, 1000000)
            issue(1, 0, 1000000)
            place(1, 0, 500000)
            issue(2, 0, 1000000)
            issue(3, 0, 100000)
            place(3, 0, 100000)
            open(10, 20, 30, 40)
            account(1, 0, 0, 0) = 10
            account(1, 0, 1, 0) = 10
            account(1, 0, 2, 0) = 0
            account(1, 0, 3, 0) = 4
            end()
            open(40, 30, 20, 10)
            account(2, 0, 0, 0) = 40
            account(2, 0, 1, 0) = 15
            account(2, 0, 2, 0) = 0
            account(2, 0, 3, 0) = 1
            """);
    }

    private void promise11OpenOrNot() {
        runs.run("promise 11: none is open", """
            end() throws IllegalState
            open(0, 0, 0, 0)
            about(1) = 1
            end() = 0
            about(1) = 0
            end() throws IllegalState
            reopen(1)
            end() throws IllegalState
            open(0, 0, 0, 0)
            end() = 0
            end() throws IllegalState
            about(0) = 2
            """);
    }

    private void promise11CountsLevies() {
        StringBuilder landings = new StringBuilder();
        for (int i = 0; i < 24; i++) {
            landings.append("land(1, %d, %d, 0, 1, false) = %d%n".formatted(i / 4, i % 4, i));
        }
        runs.run("promise 11: all 24 accounts have a levy, then one less", """
            open(0, 0, 0, 0)
            %s
            end() = 24
            levy(5, 1) = 4
            open(0, 0, 0, 0)
            # the levies of year 1 are not those of year 2
            end() = 0
            """.formatted(landings));
        runs.run("promise 11: all but a struck one", """
            open(0, 0, 0, 0)
            %s
            strike(23)
            end() = 23
            account(1, 5, 3, 8) = 0
            """.formatted(landings));
        runs.run("promise 11: left just 0, and what is advanced whole, is no levy", """
            issue(0, 0, 1000000)
            place(0, 0, 1000000)
            issue(1, 0, 1000000)
            place(1, 0, 1000000)
            issue(2, 0, 1000000)
            place(2, 0, 1000000)
            open(100, 100, 100, 0)
            land(1, 0, 0, 0, 100, false)
            land(1, 0, 1, 0, 105, false)
            land(1, 0, 2, 0, 106, false)
            end() = 1
            account(1, 0, 0, 8) = 0
            account(1, 0, 1, 8) = 0
            account(1, 0, 2, 8) = 1
            """);
    }

    /** One vessel has all of a limit and lands so much: what the end of the year, and the next one, tell. */
    private void settles(int limit, int landed, int banked, int advanced, int levied) {
        String landings = "";
        for (int rest = landed; rest > 0; rest -= 1000000) {
            landings += "land(1, 2, 1, 0, " + Math.min(rest, 1000000) + ", false)\n";
        }
        String rows = """
            issue(1, 2, 1000000)
            place(1, 2, 1000000)
            open(0, LIMIT, 0, 0)
            LANDINGS
            account(1, 2, 1, 5) = LEFT
            end() = COUNT
            account(1, 2, 1, 5) = LEFT
            account(1, 2, 1, 6) = BANKED
            account(1, 2, 1, 7) = ADVANCED
            account(1, 2, 1, 8) = LEVIED
            levy(2, 1) = LEVIED
            open(0, 0, 0, 0)
            account(2, 2, 1, 2) = BANKED
            account(2, 2, 1, 3) = ADVANCED
            account(2, 2, 1, 5) = NEXT
            """;
        runs.run("promise 11: " + landed + " landed of " + limit, rows
                .replace("LIMIT", "" + limit)
                .replace("LANDINGS", landings)
                .replace("LEFT", "" + (limit - landed))
                .replace("COUNT", levied > 0 ? "1" : "0")
                .replace("BANKED", "" + banked)
                .replace("ADVANCED", "" + advanced)
                .replace("LEVIED", "" + levied)
                .replace("NEXT", "" + (banked - advanced)));
    }

    private void promise11Banks() {
        // 15 percent are 15
        settles(100, 0, 15, 0, 0);
        settles(100, 84, 15, 0, 0);
        settles(100, 85, 15, 0, 0);
        settles(100, 86, 14, 0, 0);
        settles(100, 99, 1, 0, 0);
        settles(100, 100, 0, 0, 0);
        // 15 percent, down: 0.9, 1.05, 1.95, 2.1, 2.85, 3.0
        settles(6, 0, 0, 0, 0);
        settles(7, 0, 1, 0, 0);
        settles(13, 0, 1, 0, 0);
        settles(14, 0, 2, 0, 0);
        settles(19, 0, 2, 0, 0);
        settles(20, 0, 3, 0, 0);
        settles(119, 102, 17, 0, 0);
        settles(119, 101, 17, 0, 0);
        settles(0, 0, 0, 0, 0);
        settles(1, 0, 0, 0, 0);
        settles(1000000, 0, 150000, 0, 0);
        settles(1000000, 849999, 150000, 0, 0);
        settles(1000000, 850001, 149999, 0, 0);
        settles(999999, 0, 149999, 0, 0);
        settles(1000000, 1000000, 0, 0, 0);
    }

    private void promise11AdvancesAndLevies() {
        // 5 percent are 5
        settles(100, 101, 0, 1, 0);
        settles(100, 104, 0, 4, 0);
        settles(100, 105, 0, 5, 0);
        settles(100, 106, 0, 5, 1);
        settles(100, 200, 0, 5, 95);
        // 5 percent, down: 0.95, 1.0, 1.95, 2.0
        settles(19, 20, 0, 0, 1);
        settles(20, 21, 0, 1, 0);
        settles(20, 22, 0, 1, 1);
        settles(39, 41, 0, 1, 1);
        settles(40, 42, 0, 2, 0);
        settles(119, 124, 0, 5, 0);
        settles(119, 125, 0, 5, 1);
        settles(0, 1, 0, 0, 1);
        settles(1, 2, 0, 0, 1);
        settles(1000000, 1000001, 0, 1, 0);
        settles(1000000, 1050000, 0, 50000, 0);
        settles(1000000, 1050001, 0, 50000, 1);
        settles(999999, 1049999, 0, 49999, 1);
        settles(0, 3000000, 0, 0, 3000000);
    }

    private void promise11LeftIsOfAllFigures() {
        runs.run("promise 11: percentages are of the allotment, not of what was leased or banked", """
            issue(0, 0, 500000)
            place(0, 0, 500000)
            issue(0, 1, 500000)
            place(0, 1, 500000)
            open(200, 0, 0, 0)
            lease(0, 0, 1, 100)
            lease(0, 1, 5, 50)
            end() = 0
            # 100 allotted and 0 left, 100 and 150, 0 and 50
            account(1, 0, 0, 6) = 0
            account(1, 1, 0, 6) = 15
            account(1, 5, 0, 6) = 0
            open(200, 0, 0, 0)
            account(2, 1, 0, 5) = 115
            end()
            # 115 left, of which 15 were banked
            account(2, 1, 0, 6) = 15
            open(2, 0, 0, 0)
            account(3, 1, 0, 5) = 16
            end()
            account(3, 1, 0, 6) = 0
            """);
        runs.run("promise 11: what was leased away is over too", """
            issue(0, 0, 1000000)
            place(0, 0, 1000000)
            open(100, 0, 0, 0)
            lease(0, 0, 1, 100)
            land(1, 0, 0, 0, 6, false)
            land(1, 1, 0, 0, 101, false)
            end() = 2
            account(1, 0, 0, 7) = 5
            account(1, 0, 0, 8) = 1
            # vessel 1 has no allotment of which something could be advanced
            account(1, 1, 0, 7) = 0
            account(1, 1, 0, 8) = 1
            """);
    }

    private void promise11GoesOnToTheNextYear() {
        runs.run("promise 11: taken off, over again, and from a year without an allotment", """
            issue(3, 5, 1000000)
            place(3, 5, 1000000)
            open(0, 0, 0, 100)
            account(1, 5, 3, 2) = 0
            account(1, 5, 3, 3) = 0
            land(1, 5, 3, 0, 105, false)
            end() = 0
            open(0, 0, 0, 100)
            account(2, 5, 3, 3) = 5
            account(2, 5, 3, 5) = 95
            land(2, 5, 3, 0, 101, false)
            # 6 over: 5 of them are advanced again
            end() = 1
            account(2, 5, 3, 7) = 5
            account(2, 5, 3, 8) = 1
            open(0, 0, 0, 0)
            account(3, 5, 3, 3) = 5
            account(3, 5, 3, 5) = -5
            end() = 1
            account(3, 5, 3, 7) = 0
            account(3, 5, 3, 8) = 5
            open(0, 0, 0, 100)
            account(4, 5, 3, 2) = 0
            account(4, 5, 3, 3) = 0
            account(4, 5, 3, 5) = 100
            """);
        runs.run("promise 11: from the seventh year to the eighth, whose own goes nowhere", """
            issue(0, 0, 1000000)
            place(0, 0, 1000000)
            """ + "open(100, 0, 0, 0)\nend()\n".repeat(6) + """
            open(100, 0, 0, 0)
            land(7, 0, 0, 0, 118, false)
            end() = 0
            open(100, 0, 0, 0)
            account(8, 0, 0, 2) = 0
            account(8, 0, 0, 3) = 3
            account(8, 0, 0, 5) = 97
            land(8, 0, 0, 0, 96, false)
            end() = 0
            account(8, 0, 0, 6) = 1
            account(7, 0, 0, 7) = 3
            account(1, 0, 0, 2) = 0
            account(2, 0, 0, 2) = 15
            """);
    }

    private void promise17Numbers() {
        runs.run("promise 17: a year that there was", """
            account(-1, 0, 0, 0) throws IllegalArgument
            account(0, 0, 0, 0) throws IllegalArgument
            account(1, 0, 0, 0) throws IllegalArgument
            open(0, 0, 0, 0)
            account(0, 0, 0, 0) throws IllegalArgument
            account(1, 0, 0, 0) = 0
            account(2, 0, 0, 0) throws IllegalArgument
            end()
            account(1, 0, 0, 0) = 0
            account(2, 0, 0, 0) throws IllegalArgument
            open(0, 0, 0, 0)
            account(2, 0, 0, 0) = 0
            account(3, 0, 0, 0) throws IllegalArgument
            account(8, 0, 0, 0) throws IllegalArgument
            account(MIN, 0, 0, 0) throws IllegalArgument
            account(MAX, 0, 0, 0) throws IllegalArgument
            """);
        runs.run("promise 17: year 8, and no ninth", Runs.SEVEN_YEARS + """
            account(8, 5, 3, 5) throws IllegalArgument
            open(0, 0, 0, 0)
            land(8, 5, 3, 0, 9, false)
            account(8, 5, 3, 5) = -9
            account(7, 5, 3, 5) = 0
            account(9, 5, 3, 5) throws IllegalArgument
            account(0, 5, 3, 5) throws IllegalArgument
            levy(5, 9) throws IllegalArgument
            end() = 1
            account(8, 5, 3, 8) = 9
            levy(5, 8) = 9
            account(9, 5, 3, 5) throws IllegalArgument
            """);
        runs.run("promise 17: vessels 0 .. 5", """
            open(0, 0, 0, 0)
            land(1, 0, 1, 0, 5, false)
            land(1, 5, 1, 0, 6, false)
            account(1, -1, 1, 4) throws IllegalArgument
            account(1, 0, 1, 4) = 5
            account(1, 5, 1, 4) = 6
            account(1, 6, 1, 4) throws IllegalArgument
            account(1, MIN, 1, 4) throws IllegalArgument
            account(1, MAX, 1, 4) throws IllegalArgument
            """);
        runs.run("promise 17: species 0 .. 3", """
            open(0, 0, 0, 0)
            land(1, 2, 0, 0, 5, false)
            land(1, 2, 3, 0, 6, false)
            account(1, 2, -1, 4) throws IllegalArgument
            account(1, 2, 0, 4) = 5
            account(1, 2, 3, 4) = 6
            account(1, 2, 4, 4) throws IllegalArgument
            account(1, 2, MIN, 4) throws IllegalArgument
            account(1, 2, MAX, 4) throws IllegalArgument
            """);
        runs.run("promise 17: what 0 .. 8", """
            issue(0, 0, 1000000)
            place(0, 0, 1000000)
            open(40, 0, 0, 0)
            land(1, 0, 0, 0, 50, false)
            account(1, 0, 0, -1) throws IllegalArgument
            account(1, 0, 0, 9) throws IllegalArgument
            account(1, 0, 0, MIN) throws IllegalArgument
            account(1, 0, 0, MAX) throws IllegalArgument
            end()
            account(1, 0, 0, 0) = 40
            account(1, 0, 0, 8) = 8
            account(1, 0, 0, -1) throws IllegalArgument
            account(1, 0, 0, 9) throws IllegalArgument
            """);
    }

    private void promise17WhileTheYearIsOpen() {
        runs.run("promise 17: 6 to 8 are 0 as long as the year is open", """
            issue(0, 0, 1000000)
            place(0, 0, 1000000)
            issue(1, 0, 1000000)
            place(1, 0, 1000000)
            open(100, 100, 0, 0)
            land(1, 0, 1, 0, 110, false)
            account(1, 0, 0, 5) = 100
            account(1, 0, 0, 6) = 0
            account(1, 0, 1, 5) = -10
            account(1, 0, 1, 7) = 0
            account(1, 0, 1, 8) = 0
            levy(0, 1) = 0
            end() = 1
            account(1, 0, 0, 6) = 15
            account(1, 0, 1, 7) = 5
            account(1, 0, 1, 8) = 5
            levy(0, 1) = 5
            open(100, 100, 0, 0)
            land(2, 0, 0, 0, 200, false)
            reopen(1)
            land(1, 0, 0, 0, 1, false)
            # year 2 was worked anew, but is open still; year 1 is reopened, but not open
            account(2, 0, 0, 5) = -85
            account(2, 0, 0, 6) = 0
            account(2, 0, 0, 7) = 0
            account(2, 0, 0, 8) = 0
            account(2, 0, 1, 6) = 0
            levy(0, 2) = 0
            account(1, 0, 0, 6) = 15
            account(1, 0, 1, 7) = 5
            account(1, 0, 1, 8) = 5
            end() = 1
            account(2, 0, 0, 7) = 5
            account(2, 0, 0, 8) = 80
            account(2, 0, 1, 6) = 15
            """);
    }

    private void promise17WhileEachYearIsOpen() {
        StringBuilder rows = new StringBuilder("""
            issue(0, 0, 1000000)
            place(0, 0, 1000000)
            """);
        for (int year = 1; year <= 8; year++) {
            rows.append("""
                open(100, 100, 100, 100)
                land(YEAR, 0, 1, 0, 3, false)
                account(YEAR, 0, 0, 6) = 0
                account(YEAR, 0, 1, 8) = 0
                land(YEAR, 0, 0, 0, 105, false)
                account(YEAR, 0, 0, 7) = 0
                levy(0, YEAR) = 0
                end()
                account(YEAR, 0, 0, 7) = 5
                account(YEAR, 0, 1, 8) = 3
                """.replace("YEAR", "" + year));
        }
        runs.run("promise 17: 6 to 8 are 0 as long as a year is open, the eighth too", rows.toString());
    }

    private void promise17BelowZero() {
        runs.run("promise 17: left just 0, and below it", """
            issue(0, 0, 1000000)
            place(0, 0, 1000000)
            open(100, 0, 0, 0)
            land(1, 0, 0, 0, 100, false)
            account(1, 0, 0, 5) = 0
            land(1, 0, 0, 0, 1, false)
            account(1, 0, 0, 5) = -1
            land(1, 3, 3, 0, 1000000, false)
            account(1, 3, 3, 5) = -1000000
            """);
        runs.run("promise 17: leased is what came less what went", """
            issue(0, 0, 1000000)
            place(0, 0, 1000000)
            open(100, 0, 0, 0)
            account(1, 0, 0, 1) = 0
            lease(0, 0, 1, 100)
            account(1, 0, 0, 1) = -100
            account(1, 1, 0, 1) = 100
            lease(0, 1, 0, 100)
            account(1, 0, 0, 1) = 0
            account(1, 1, 0, 1) = 0
            account(1, 0, 0, 5) = 100
            """);
    }

    private void promise18Numbers() {
        runs.run("promise 18: owners 0 .. 5", """
            open(0, 0, 0, 0)
            land(1, 0, 0, 0, 5, false)
            land(1, 5, 0, 0, 6, false)
            end()
            levy(-1, 1) throws IllegalArgument
            levy(0, 1) = 5
            levy(5, 1) = 6
            levy(6, 1) throws IllegalArgument
            levy(MIN, 1) throws IllegalArgument
            levy(MAX, 1) throws IllegalArgument
            """);
        runs.run("promise 18: a year that there was", """
            levy(0, 1) throws IllegalArgument
            open(0, 0, 0, 0)
            land(1, 0, 0, 0, 5, false)
            levy(0, 0) throws IllegalArgument
            levy(0, 1) = 0
            levy(0, 2) throws IllegalArgument
            end()
            levy(0, 1) = 5
            levy(0, 2) throws IllegalArgument
            levy(0, -1) throws IllegalArgument
            levy(0, MIN) throws IllegalArgument
            levy(0, MAX) throws IllegalArgument
            open(0, 0, 0, 0)
            levy(0, 2) = 0
            levy(0, 3) throws IllegalArgument
            """);
    }

    private void promise18AsTheyAreNow() {
        runs.each("$v", 6, "promise 18: an owner with no vessel, with one, with all", """
            open(0, 0, 0, 0)
            land(1, 0, 0, 0, 1, false)
            land(1, 1, 1, 0, 2, false)
            land(1, 2, 2, 0, 4, false)
            land(1, 3, 3, 0, 8, false)
            land(1, 4, 0, 0, 16, false)
            land(1, 5, 1, 0, 32, false)
            end() = 6
            vessel($v, $v+)
            levy($v, 1) = 0
            vessel(0, $v)
            vessel(1, $v)
            vessel(2, $v)
            vessel(3, $v)
            vessel(4, $v)
            vessel(5, $v)
            levy($v, 1) = 63
            levy($v+, 1) = 0
            species(0, 1000, 1000000)
            species(3, 2, 1000000)
            levy($v, 1) = 17054
            """);
    }

    private void promise18MoreThanAnInt() {
        runs.run("promise 18: more than an int holds", """
            species(0, 1000, 1000000)
            species(1, 1000, 1000000)
            open(0, 0, 0, 0)
            2 times land(1, 0, 0, 0, 1000000, false)
            land(1, 0, 0, 0, 147483, false)
            land(1, 0, 1, 0, 1, false)
            2 times land(1, 1, 0, 0, 1000000, false)
            2 times land(1, 1, 1, 0, 1000000, false)
            end() = 4
            levy(0, 1) = 2147484000
            levy(1, 1) = 4000000000
            vessel(1, 0)
            levy(0, 1) = 6147484000
            """);
        runs.run("promise 18: the most there can be", """
            species(2, 1000, 1000000)
            factor(2, 0, 5000)
            open(0, 0, 0, 0)
            200 times land(1, 3, 2, 0, 1000000, false)
            account(1, 3, 2, 4) = 1000000000
            account(1, 3, 2, 5) = -1000000000
            end() = 1
            account(1, 3, 2, 8) = 1000000000
            levy(3, 1) = 1000000000000
            """);
    }
}
