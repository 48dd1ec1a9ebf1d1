/** The boundary cases of promises 1 to 9 and 19, and of the terms that they use. */
public final class SharesBoundsTest {
    private final Runs runs = new Runs();

    public static void main(String[] args) {
        SharesBoundsTest test = new SharesBoundsTest();
        test.promise1NewObject();
        test.promise2Numbers();
        test.promise2Caps();
        test.promise3Factor();
        test.promise4Vessel();
        test.promise5Numbers();
        test.promise5Caps();
        test.promises5And6InAnyYear();
        test.promise6Unlink();
        test.promise7Numbers();
        test.promise7Full();
        test.promise8Numbers();
        test.promise8FreeAndCaps();
        test.promise9Numbers();
        test.promise9FreeAndPlaced();
        test.promise19Held();
        test.runs.finish();
    }

    private void promise1NewObject() {
        runs.run("promise 1: no year yet, nothing told", """
            about(0) = 0
            about(1) = 0
            about(2) = 0
            about(3) = 0
            event(0, 0) throws IndexOutOfBounds
            strike(0) throws IndexOutOfBounds
            account(0, 0, 0, 0) throws IllegalArgument
            account(1, 0, 0, 0) throws IllegalArgument
            levy(0, 0) throws IllegalArgument
            levy(0, 1) throws IllegalArgument
            reopen(0) throws IllegalArgument
            reopen(1) throws IllegalArgument
            land(0, 0, 0, 0, 1, false) throws IllegalArgument
            land(1, 0, 0, 0, 1, false) throws IllegalArgument
            end() throws IllegalState
            lease(0, 0, 1, 1) throws IllegalState
            equivalent(0, 0, 1, 1) throws IllegalState
            open(0, 0, 0, 0) = 1
            """);
        runs.each("$s", 4, "promise 1: no parts", """
            held($s, 0, 0) = 0
            held($s, 0, 1) = 0
            held($s, 0, 2) = 0
            held($s, 5, 0) = 0
            held($s, 5, 1) = 0
            held($s, 5, 2) = 0
            sell($s, 0, 1, 1) throws IllegalState
            place($s, 0, 1) throws IllegalState
            place($s, 0, -1) throws IllegalState
            place($s, 0, 0) = 0
            """);
        runs.each("$a", 6, "promise 1: no links", """
            unlink($a, $a+) throws IllegalState
            unlink(0, 3) throws IllegalState
            unlink(0, 2) throws IllegalState
            unlink(1, 4) throws IllegalState
            unlink(5, 3) throws IllegalState
            issue(0, $a, 7) = 7
            held(0, $a, 2) = 7
            held(0, $a+, 2) = 0
            """);
        runs.each("$s", 4, "promise 1: caps are 1000000", """
            issue($s, 3, 1000000) = 1000000
            issue($s, 3, 1) throws IllegalState
            """);
        runs.each("$s", 4, "promise 1: caps are 1000000, of a group too", """
            issue($s, 0, 1) = 1
            issue($s, 5, 999999) = 999999
            link(0, 5)
            held($s, 0, 2) = 1000000
            """);
        runs.each("$s", 4, "promise 1: factors are 1000", """
            open(0, 0, 0, 0)
            land(1, 0, $s, 0, 1, false) = 0
            land(1, 0, $s, 1, 1000000, false) = 1
            land(1, 0, $s, 2, 999, false) = 2
            event(0, 3) = 1
            event(1, 3) = 1000000
            event(2, 3) = 999
            """);
        runs.each("$s", 4, "promise 1: values are 1", """
            issue($s+, 0, 1000000)
            place($s+, 0, 1000000)
            open(10, 10, 10, 10)
            land(1, 0, $s, 0, 20, false)
            equivalent(0, $s, $s+, 10) = 1
            event(1, 3) = 10
            end() = 1
            levy(0, 1) = 10
            """);
        runs.each("$v", 6, "promise 1: vessel k belongs to owner k", """
            issue(0, $v, 1)
            place(0, $v+, 1) throws IllegalState
            place(0, $v, 1) = 1
            held(0, $v, 1) = 0
            """);
    }

    private void promise2Numbers() {
        runs.run("promise 2: species 0 .. 3", """
            species(MIN, 6, 8) throws IllegalArgument
            species(-1, 6, 8) throws IllegalArgument
            species(4, 6, 8) throws IllegalArgument
            species(MAX, 6, 8) throws IllegalArgument
            species(0, 5, 7)
            species(1, 5, 7)
            species(2, 5, 7)
            species(3, 5, 7)
            species(-1, 6, 8) throws IllegalArgument
            species(4, 6, 8) throws IllegalArgument
            issue(0, 0, 8) throws IllegalState
            issue(0, 0, 7) = 7
            issue(3, 0, 8) throws IllegalState
            issue(3, 0, 7) = 7
            """);
        runs.run("promise 2: value 1 .. 1000", """
            species(0, 1001, 50) throws IllegalArgument
            species(0, MAX, 50) throws IllegalArgument
            species(0, 0, 50) throws IllegalArgument
            species(0, -1, 50) throws IllegalArgument
            species(0, MIN, 50) throws IllegalArgument
            open(0, 0, 0, 0)
            land(1, 0, 0, 0, 3, false)
            land(1, 0, 3, 0, 1, false)
            end() = 2
            species(0, 1000, 1000000)
            species(0, 1001, 1000000) throws IllegalArgument
            levy(0, 1) = 3001
            species(0, 1, 1000000)
            species(0, 0, 1000000) throws IllegalArgument
            levy(0, 1) = 4
            species(3, 1000, 1000000)
            levy(0, 1) = 1003
            """);
        runs.run("promise 2: cap 0 .. 1000000", """
            species(1, 5, -1) throws IllegalArgument
            species(1, 5, MIN) throws IllegalArgument
            species(1, 5, 1000001) throws IllegalArgument
            species(1, 5, MAX) throws IllegalArgument
            species(1, 7, 0)
            species(1, 5, -1) throws IllegalArgument
            issue(1, 0, 1) throws IllegalState
            species(1, 7, 1000000)
            species(1, 5, 1000001) throws IllegalArgument
            issue(1, 0, 1000000) = 1000000
            """);
    }

    private void promise2Caps() {
        runs.each("$o", 6, "promise 2: an owner alone holds just the cap, or more", """
            issue(2, $o, 10)
            species(2, 3, 9) throws IllegalArgument
            species(2, 3, 0) throws IllegalArgument
            species(2, 3, 10)
            issue(2, $o, 1) throws IllegalState
            issue(2, $o+, 10) = 10
            # parts of another species are nothing to this cap
            species(1, 3, 0)
            """);
        runs.run("promise 2: a group holds just the cap, or more", """
            issue(0, 1, 10)
            issue(0, 4, 20)
            issue(0, 2, 25)
            species(0, 1, 25)
            species(0, 1, 1000000)
            link(4, 1)
            species(0, 1, 29) throws IllegalArgument
            species(0, 1, 30)
            issue(0, 1, 1) throws IllegalState
            issue(0, 2, 5) = 30
            unlink(4, 1)
            species(0, 1, 29) throws IllegalArgument
            species(0, 1, 30)
            """);
        runs.run("promise 2: a group that hangs together through all six", """
            issue(3, 0, 1)
            issue(3, 1, 1)
            issue(3, 2, 1)
            issue(3, 3, 1)
            issue(3, 4, 1)
            issue(3, 5, 1)
            link(0, 5)
            link(5, 1)
            link(1, 4)
            link(4, 2)
            link(2, 3)
            species(3, 1, 5) throws IllegalArgument
            species(3, 1, 6)
            """);
        runs.each("$s", 4, "promise 2: each species has its own value and cap", """
            species($s, 7, 5)
            issue($s, 0, 6) throws IllegalState
            issue($s, 0, 5) = 5
            issue($s+, 0, 6) = 6
            open(0, 0, 0, 0)
            land(1, 0, $s, 0, 10, false)
            land(1, 0, $s+, 0, 1, false)
            end()
            levy(0, 1) = 71
            species($s, 8, 4) throws IllegalArgument
            levy(0, 1) = 71
            species($s, 8, 5)
            levy(0, 1) = 81
            """);
    }

    private void promise3Factor() {
        runs.run("promise 3: species 0 .. 3", """
            open(0, 0, 0, 0)
            factor(0, 0, 2000)
            factor(3, 0, 3000)
            factor(-1, 0, 4000) throws IllegalArgument
            factor(4, 0, 4000) throws IllegalArgument
            factor(MIN, 0, 4000) throws IllegalArgument
            factor(MAX, 0, 4000) throws IllegalArgument
            land(1, 0, 0, 0, 1, false) = 0
            land(1, 0, 3, 0, 1, false) = 1
            event(0, 3) = 2
            event(1, 3) = 3
            """);
        runs.each("$s", 4, "promise 3: form 0 .. 2, each with its own factor", """
            open(0, 0, 0, 0)
            factor($s, 0, 2000)
            factor($s, 2, 3000)
            factor($s, -1, 4000) throws IllegalArgument
            factor($s, 3, 4000) throws IllegalArgument
            factor($s, MIN, 4000) throws IllegalArgument
            factor($s, MAX, 4000) throws IllegalArgument
            land(1, 0, $s, 0, 1, false) = 0
            land(1, 0, $s, 1, 1, false) = 1
            land(1, 0, $s, 2, 1, false) = 2
            land(1, 0, $s+, 0, 1, false) = 3
            land(1, 0, $s+, 2, 1, false) = 4
            event(0, 3) = 2
            event(1, 3) = 1
            event(2, 3) = 3
            event(3, 3) = 1
            event(4, 3) = 1
            """);
        runs.run("promise 3: factor 0 .. 5000", """
            open(0, 0, 0, 0)
            factor(1, 1, 5000)
            factor(1, 1, 5001) throws IllegalArgument
            factor(1, 1, MAX) throws IllegalArgument
            land(1, 0, 1, 1, 1, false) = 0
            event(0, 3) = 5
            factor(1, 1, 1)
            land(1, 0, 1, 1, 1000, false) = 1
            event(1, 3) = 1
            factor(1, 1, -1) throws IllegalArgument
            factor(1, 1, MIN) throws IllegalArgument
            # 0 is taken: there is none then
            factor(1, 1, 0)
            land(1, 0, 1, 1, 1000, false) throws IllegalArgument
            land(1, 0, 1, 0, 1000, false) = 2
            factor(1, 1, 1)
            land(1, 0, 1, 1, 1000, false) = 3
            """);
    }

    private void promise4Vessel() {
        runs.run("promise 4: vessels 0 .. 5", """
            issue(0, 3, 2)
            vessel(-1, 3) throws IllegalArgument
            vessel(6, 3) throws IllegalArgument
            vessel(MIN, 3) throws IllegalArgument
            vessel(MAX, 3) throws IllegalArgument
            vessel(0, 3)
            vessel(5, 3)
            place(0, 0, 1) = 1
            place(0, 5, 1) = 1
            held(0, 3, 1) = 0
            """);
        runs.run("promise 4: owners 0 .. 5", """
            issue(0, 0, 1)
            issue(0, 5, 1)
            vessel(2, -1) throws IllegalArgument
            vessel(2, 6) throws IllegalArgument
            vessel(2, MIN) throws IllegalArgument
            vessel(2, MAX) throws IllegalArgument
            vessel(2, 0)
            place(0, 2, 1) = 1
            held(0, 0, 1) = 0
            place(0, 2, -1) = 0
            vessel(2, 5)
            place(0, 2, 1) = 1
            held(0, 5, 1) = 0
            """);
        runs.each("$s", 4, "promise 4: one part placed on it, or none", """
            issue($s, 1, 2)
            place($s, 1, 1)
            vessel(1, 4) throws IllegalState
            vessel(1, 1) throws IllegalState
            # what is on another vessel, or free, is nothing to this one
            vessel(4, 1)
            place($s, 4, 1)
            place($s, 1, -1)
            vessel(1, 5)
            vessel(4, 5) throws IllegalState
            """);
        runs.each("$v", 6, "promise 4: each vessel, also in a year and when it ended", """
            issue(2, $v, 5)
            place(2, $v, 5)
            open(10, 10, 10, 10)
            vessel($v, $v+) throws IllegalState
            vessel($v+, $v)
            place(2, $v, -5)
            vessel($v, $v+)
            end()
            vessel($v, $v)
            place(2, $v, 1) = 1
            vessel($v, $v+) throws IllegalState
            open(10, 10, 10, 10)
            place(2, $v, -1) = 0
            vessel($v, $v+)
            place(2, $v, 1) throws IllegalState
            place(2, $v+, 5) = 5
            end()
            vessel($v, $v)
            vessel($v+, $v+) throws IllegalState
            place(2, $v, 1) throws IllegalState
            """);
        runs.run("promise 4: IllegalArgumentException is named first", """
            issue(0, 0, 1)
            place(0, 0, 1)
            vessel(0, 6) throws IllegalArgument
            vessel(0, -1) throws IllegalArgument
            vessel(0, 1) throws IllegalState
            """);
    }

    private void promise5Numbers() {
        runs.run("promise 5: owners 0 .. 5, not the same", """
            link(-1, 5) throws IllegalArgument
            link(5, -1) throws IllegalArgument
            link(6, 0) throws IllegalArgument
            link(0, 6) throws IllegalArgument
            link(MIN, 0) throws IllegalArgument
            link(0, MAX) throws IllegalArgument
            link(-1, -1) throws IllegalArgument
            link(0, 0) throws IllegalArgument
            link(5, 5) throws IllegalArgument
            link(0, 5)
            issue(0, 0, 3)
            held(0, 5, 2) = 3
            link(0, 0) throws IllegalArgument
            """);
        runs.each("$a", 6, "promise 5: two who are linked already", """
            issue(1, $a, 3)
            issue(1, $a+, 4)
            species(1, 1, 7)
            link($a, $a+)
            link($a, $a+)
            link($a+, $a)
            held(1, $a, 2) = 7
            held(1, $a+, 2) = 7
            # one unlink undoes it, however often it was told
            unlink($a, $a+)
            unlink($a, $a+) throws IllegalState
            held(1, $a, 2) = 3
            held(1, $a+, 2) = 4
            """);
    }

    private void promise5Caps() {
        runs.each("$s", 4, "promise 5: a group of two just at the cap, or over it", """
            issue($s, 0, 10)
            issue($s, 5, 20)
            species($s, 1, 29)
            link(0, 5) throws IllegalState
            link(5, 0) throws IllegalState
            species($s, 1, 30)
            link(0, 5)
            held($s, 5, 2) = 30
            """);
        runs.run("promise 5: whole groups come together", """
            issue(2, 0, 1)
            issue(2, 1, 2)
            issue(2, 2, 4)
            issue(2, 3, 8)
            issue(2, 4, 16)
            issue(2, 5, 32)
            link(0, 1)
            link(1, 2)
            link(3, 4)
            link(4, 5)
            held(2, 0, 2) = 7
            held(2, 3, 2) = 56
            species(2, 1, 62)
            link(0, 3) throws IllegalState
            link(2, 5) throws IllegalState
            link(4, 1) throws IllegalState
            species(2, 1, 63)
            link(5, 2)
            held(2, 0, 2) = 63
            held(2, 3, 2) = 63
            # within a group that is at its cap nothing more comes in
            link(0, 4)
            link(1, 5)
            issue(2, 3, 1) throws IllegalState
            """);
        runs.run("promise 5: what others hold is nothing to the group", """
            issue(1, 0, 10)
            issue(1, 1, 20)
            issue(1, 2, 30)
            species(1, 1, 30)
            link(0, 1)
            held(1, 1, 2) = 30
            link(1, 2) throws IllegalState
            """);
        runs.each("$o", 6, "promise 5: a chain through all six, seen from each", """
            issue(0, 0, 1)
            issue(0, 1, 2)
            issue(0, 2, 4)
            issue(0, 3, 8)
            issue(0, 4, 16)
            issue(0, 5, 32)
            link(0, 1)
            link(1, 2)
            link(2, 3)
            link(3, 4)
            link(4, 5)
            held(0, $o, 2) = 63
            species(0, 1, 62) throws IllegalArgument
            species(0, 1, 63)
            issue(0, $o, 1) throws IllegalState
            # others than the two ends come together, with a gap in between
            unlink(2, 3)
            held(0, 0, 2) = 7
            held(0, 2, 2) = 7
            held(0, 3, 2) = 56
            held(0, 5, 2) = 56
            species(0, 1, 56)
            link(0, 5) throws IllegalState
            issue(0, 1, 49) = 51
            issue(0, 0, 1) throws IllegalState
            """);
        runs.run("promise 5: with a cap of 0 those who hold nothing", """
            species(0, 1, 0)
            link(0, 1)
            link(1, 2)
            issue(0, 2, 1) throws IllegalState
            """);
    }

    private void promises5And6InAnyYear() {
        runs.run("promises 5 and 6: also in a year, and when it ended, with the cap as before", """
            issue(0, 0, 10)
            issue(0, 1, 20)
            issue(0, 2, 30)
            species(0, 1, 30)
            open(0, 0, 0, 0)
            link(0, 1)
            held(0, 0, 2) = 30
            link(1, 2) throws IllegalState
            unlink(1, 2) throws IllegalState
            unlink(0, 1)
            held(0, 0, 2) = 10
            end()
            link(1, 2) throws IllegalState
            link(1, 0)
            unlink(0, 1)
            open(0, 0, 0, 0)
            species(0, 1, 50)
            link(1, 2)
            held(0, 1, 2) = 50
            link(0, 1) throws IllegalState
            """);
    }

    private void promise6Unlink() {
        runs.run("promise 6: owners 0 .. 5, not the same", """
            link(0, 5)
            unlink(-1, 5) throws IllegalArgument
            unlink(5, -1) throws IllegalArgument
            unlink(6, 0) throws IllegalArgument
            unlink(0, 6) throws IllegalArgument
            unlink(MIN, 5) throws IllegalArgument
            unlink(0, MAX) throws IllegalArgument
            unlink(6, 6) throws IllegalArgument
            # the same, who are not linked either: IllegalArgumentException is named first
            unlink(0, 0) throws IllegalArgument
            unlink(5, 5) throws IllegalArgument
            unlink(3, 3) throws IllegalArgument
            unlink(5, 0)
            unlink(5, 0) throws IllegalState
            unlink(0, 5) throws IllegalState
            """);
        runs.each("$a", 6, "promise 6: linked with each other, or only through a third", """
            link($a, $a+)
            unlink($a+, $a)
            unlink($a, $a+) throws IllegalState
            link(1, 3)
            link(3, 4)
            unlink(1, 4) throws IllegalState
            unlink(4, 1) throws IllegalState
            link(4, 1)
            issue(0, 1, 5)
            unlink(1, 4)
            # the two still hang together through the third
            held(0, 4, 2) = 5
            unlink(3, 1)
            held(0, 4, 2) = 0
            held(0, 3, 2) = 0
            held(0, 1, 2) = 5
            """);
    }

    private void promise7Numbers() {
        runs.run("promise 7: species 0 .. 3", """
            issue(-1, 0, 1) throws IllegalArgument
            issue(4, 0, 1) throws IllegalArgument
            issue(MIN, 0, 1) throws IllegalArgument
            issue(MAX, 0, 1) throws IllegalArgument
            issue(0, 0, 1) = 1
            issue(3, 0, 2) = 2
            held(0, 0, 0) = 1
            held(3, 0, 0) = 2
            """);
        runs.run("promise 7: owners 0 .. 5", """
            issue(0, -1, 1) throws IllegalArgument
            issue(0, 6, 1) throws IllegalArgument
            issue(0, MIN, 1) throws IllegalArgument
            issue(0, MAX, 1) throws IllegalArgument
            issue(0, 0, 1) = 1
            issue(0, 5, 2) = 2
            held(0, 0, 0) = 1
            held(0, 5, 0) = 2
            """);
        runs.run("promise 7: parts 1 .. 1000000", """
            issue(0, 0, 0) throws IllegalArgument
            issue(0, 0, -1) throws IllegalArgument
            issue(0, 0, MIN) throws IllegalArgument
            issue(0, 0, 1000001) throws IllegalArgument
            issue(0, 0, MAX) throws IllegalArgument
            issue(0, 0, 1) = 1
            issue(1, 0, 1000000) = 1000000
            """);
        runs.run("promise 7: no year was opened yet, one is open, one ended", """
            issue(0, 0, 5) = 5
            open(0, 0, 0, 0)
            issue(0, 0, 1) throws IllegalState
            issue(1, 1, 1000000) throws IllegalState
            end()
            issue(0, 0, 1) throws IllegalState
            reopen(1)
            issue(0, 0, 1) throws IllegalState
            """);
        runs.run("promise 7: IllegalArgumentException is named first", """
            species(0, 1, 0)
            issue(0, 0, 1) throws IllegalState
            issue(0, 0, 0) throws IllegalArgument
            issue(0, 6, 1) throws IllegalArgument
            open(0, 0, 0, 0)
            issue(1, 0, 1) throws IllegalState
            issue(4, 0, 1) throws IllegalArgument
            issue(1, 0, 1000001) throws IllegalArgument
            """);
    }

    private void promise7Full() {
        runs.each("$s", 4, "promise 7: 1000000 parts of a species in all", """
            issue($s, 0, 500000) = 500000
            issue($s, 1, 499998) = 499998
            issue($s, 2, 3) throws IllegalState
            issue($s, 2, 1000000) throws IllegalState
            issue($s, 2, 2) = 2
            issue($s, 2, 1) throws IllegalState
            issue($s, 5, 1) throws IllegalState
            issue($s+, 5, 1000000) = 1000000
            """);
        runs.run("promise 7: 1000000 parts, a few with each owner", """
            issue(1, 0, 100000) = 100000
            issue(1, 1, 100000)
            issue(1, 2, 100000)
            issue(1, 3, 100000)
            issue(1, 4, 100000)
            issue(1, 5, 500001) throws IllegalState
            issue(1, 5, 500000) = 500000
            issue(1, 0, 1) throws IllegalState
            """);
        runs.each("$o", 6, "promise 7: an owner just at the cap, or over it", """
            species(3, 1, 40)
            issue(3, $o, 41) throws IllegalState
            issue(3, $o, 39) = 39
            issue(3, $o, 2) throws IllegalState
            issue(3, $o, 1) = 40
            issue(3, $o, 1) throws IllegalState
            issue(3, $o+, 40) = 40
            """);
        runs.run("promise 7: a group just at the cap, or over it", """
            species(0, 1, 100)
            link(0, 4)
            link(4, 2)
            issue(0, 0, 60) = 60
            issue(0, 2, 41) throws IllegalState
            issue(0, 2, 40) = 40
            issue(0, 4, 1) throws IllegalState
            issue(0, 0, 1) throws IllegalState
            issue(0, 3, 100) = 100
            unlink(4, 2)
            issue(0, 4, 41) throws IllegalState
            issue(0, 4, 40) = 40
            """);
    }

    private void promise8Numbers() {
        runs.run("promise 8: species 0 .. 3", """
            issue(0, 0, 5)
            issue(3, 0, 5)
            sell(-1, 0, 1, 1) throws IllegalArgument
            sell(4, 0, 1, 1) throws IllegalArgument
            sell(MIN, 0, 1, 1) throws IllegalArgument
            sell(MAX, 0, 1, 1) throws IllegalArgument
            sell(0, 0, 1, 1)
            sell(3, 0, 1, 2)
            held(0, 0, 0) = 4
            held(0, 1, 0) = 1
            held(3, 0, 0) = 3
            held(3, 1, 0) = 2
            """);
        runs.run("promise 8: owners 0 .. 5, not the same", """
            issue(1, 0, 5)
            sell(1, -1, 0, 1) throws IllegalArgument
            sell(1, 0, -1, 1) throws IllegalArgument
            sell(1, 6, 0, 1) throws IllegalArgument
            sell(1, 0, 6, 1) throws IllegalArgument
            sell(1, MIN, 0, 1) throws IllegalArgument
            sell(1, 0, MAX, 1) throws IllegalArgument
            sell(1, 0, 0, 1) throws IllegalArgument
            sell(1, 5, 5, 1) throws IllegalArgument
            sell(1, 0, 5, 5)
            held(1, 5, 0) = 5
            sell(1, 5, 0, 5)
            held(1, 0, 0) = 5
            held(1, 5, 0) = 0
            """);
        runs.run("promise 8: parts 1 .. 1000000", """
            issue(2, 0, 1000000)
            sell(2, 0, 1, 0) throws IllegalArgument
            sell(2, 0, 1, -1) throws IllegalArgument
            sell(2, 0, 1, MIN) throws IllegalArgument
            sell(2, 0, 1, 1000001) throws IllegalArgument
            sell(2, 0, 1, MAX) throws IllegalArgument
            sell(2, 0, 1, 1000000)
            held(2, 1, 0) = 1000000
            sell(2, 1, 0, 1)
            held(2, 0, 0) = 1
            """);
        runs.run("promise 8: IllegalArgumentException is named first", """
            sell(0, 0, 0, 1) throws IllegalArgument
            sell(0, 0, 1, 1000001) throws IllegalArgument
            sell(0, 0, 6, 1) throws IllegalArgument
            sell(0, 0, 1, 1) throws IllegalState
            """);
    }

    private void promise8FreeAndCaps() {
        runs.each("$s", 4, "promise 8: just so many as are free, or more", """
            issue($s, 2, 100)
            vessel(4, 2)
            place($s, 2, 30)
            place($s, 4, 20)
            sell($s, 2, 3, 51) throws IllegalState
            sell($s, 2, 3, 100) throws IllegalState
            sell($s, 2, 3, 50)
            sell($s, 2, 3, 1) throws IllegalState
            held($s, 2, 0) = 50
            held($s, 2, 1) = 0
            held($s, 3, 1) = 50
            place($s, 4, -1)
            sell($s, 2, 3, 2) throws IllegalState
            sell($s, 2, 3, 1)
            held($s, 3, 0) = 51
            """);
        runs.run("promise 8: all, to one who holds nothing", """
            issue(0, 5, 1)
            sell(0, 5, 0, 2) throws IllegalState
            sell(0, 5, 0, 1)
            sell(0, 5, 0, 1) throws IllegalState
            held(0, 5, 0) = 0
            held(0, 0, 0) = 1
            """);
        runs.each("$s", 4, "promise 8: an owner just at the cap, or over it", """
            issue($s, 0, 40)
            issue($s, 1, 35)
            species($s, 1, 40)
            sell($s, 0, 1, 6) throws IllegalState
            sell($s, 0, 1, 5)
            sell($s, 0, 1, 1) throws IllegalState
            held($s, 1, 0) = 40
            held($s, 0, 0) = 35
            """);
        runs.run("promise 8: a group just at the cap, or over it", """
            issue(1, 0, 60)
            issue(1, 1, 10)
            issue(1, 2, 10)
            link(1, 2)
            link(2, 3)
            species(1, 1, 60)
            sell(1, 0, 3, 41) throws IllegalState
            sell(1, 0, 3, 40)
            sell(1, 0, 1, 1) throws IllegalState
            # within a group that is at its cap
            sell(1, 3, 1, 40)
            sell(1, 2, 3, 10)
            held(1, 1, 0) = 50
            held(1, 3, 2) = 60
            # what goes out of the group makes room
            sell(1, 3, 5, 1)
            sell(1, 0, 3, 2) throws IllegalState
            sell(1, 0, 3, 1)
            """);
        runs.run("promise 8: also in a year, and when it ended, with the cap as before", """
            issue(0, 0, 20)
            issue(0, 1, 8)
            place(0, 0, 5)
            species(0, 1, 20)
            open(0, 0, 0, 0)
            sell(0, 0, 1, 13) throws IllegalState
            sell(0, 0, 1, 10)
            sell(0, 0, 1, 3) throws IllegalState
            end()
            sell(0, 0, 1, 3) throws IllegalState
            sell(0, 0, 1, 2)
            held(0, 1, 0) = 20
            sell(0, 0, 2, 4) throws IllegalState
            open(0, 0, 0, 0)
            sell(0, 0, 2, 3)
            held(0, 0, 1) = 0
            """);
    }

    private void promise9Numbers() {
        runs.run("promise 9: species 0 .. 3", """
            issue(0, 0, 5)
            issue(3, 0, 5)
            place(-1, 0, 1) throws IllegalArgument
            place(4, 0, 1) throws IllegalArgument
            place(MIN, 0, 1) throws IllegalArgument
            place(MAX, 0, 1) throws IllegalArgument
            place(0, 0, 1) = 1
            place(3, 0, 2) = 2
            held(0, 0, 1) = 4
            held(3, 0, 1) = 3
            """);
        runs.run("promise 9: vessels 0 .. 5", """
            issue(1, 0, 5)
            issue(1, 5, 5)
            place(1, -1, 1) throws IllegalArgument
            place(1, 6, 1) throws IllegalArgument
            place(1, MIN, 1) throws IllegalArgument
            place(1, MAX, 1) throws IllegalArgument
            place(1, 0, 1) = 1
            place(1, 5, 2) = 2
            held(1, 0, 1) = 4
            held(1, 5, 1) = 3
            """);
        runs.run("promise 9: IllegalArgumentException is named first", """
            place(0, 0, 1) throws IllegalState
            place(4, 0, 1) throws IllegalArgument
            place(0, 6, 1) throws IllegalArgument
            place(0, 0, -1) throws IllegalState
            place(-1, 0, -1) throws IllegalArgument
            place(0, -1, -1) throws IllegalArgument
            """);
    }

    private void promise9FreeAndPlaced() {
        runs.each("$v", 6, "promise 9: just so many as are free, or more", """
            issue(2, $v, 100)
            vessel($v+, $v)
            place(2, $v, 101) throws IllegalState
            place(2, $v, MAX) throws IllegalState
            place(2, $v, 60) = 60
            place(2, $v, MAX) throws IllegalState
            place(2, $v, 41) throws IllegalState
            place(2, $v+, 41) throws IllegalState
            place(2, $v+, 39) = 39
            place(2, $v, 2) throws IllegalState
            place(2, $v, 1) = 61
            place(2, $v, 1) throws IllegalState
            place(2, $v+, 1) throws IllegalState
            place(2, $v, 0) = 61
            held(2, $v, 1) = 0
            held(2, $v, 0) = 100
            """);
        runs.each("$v", 6, "promise 9: just so many as are placed there, or more", """
            issue(1, $v, 100)
            vessel($v+, $v)
            place(1, $v, 10) = 10
            place(1, $v+, 20) = 20
            place(1, $v, -11) throws IllegalState
            place(1, $v, -30) throws IllegalState
            place(1, $v, MIN) throws IllegalState
            place(1, $v, -10) = 0
            place(1, $v, MIN) throws IllegalState
            place(1, $v, -1) throws IllegalState
            place(1, $v, 0) = 0
            place(1, $v+, -21) throws IllegalState
            place(1, $v+, -19) = 1
            place(1, $v+, -1) = 0
            place(1, $v+, -1) throws IllegalState
            held(1, $v, 1) = 100
            """);
        runs.run("promise 9: all 1000000, there and back", """
            issue(3, 4, 1000000)
            place(3, 4, 1000001) throws IllegalState
            place(3, 4, 1000000) = 1000000
            place(3, 4, -1000001) throws IllegalState
            place(3, 4, -1000000) = 0
            """);
        runs.run("promise 9: parts of its owner's alone", """
            issue(0, 1, 10)
            link(1, 2)
            place(0, 2, 1) throws IllegalState
            vessel(2, 1)
            place(0, 2, 10) = 10
            place(0, 1, 1) throws IllegalState
            # parts of another species are not these
            place(1, 1, 1) throws IllegalState
            """);
        runs.run("promise 9: also in a year, and when it ended", """
            issue(0, 0, 10)
            open(0, 0, 0, 0)
            place(0, 0, 4) = 4
            end()
            place(0, 0, 6) = 10
            place(0, 0, 1) throws IllegalState
            place(0, 0, -10) = 0
            """);
    }

    private void promise19Held() {
        runs.run("promise 19: species 0 .. 3", """
            issue(0, 2, 5)
            issue(3, 2, 6)
            held(-1, 2, 0) throws IllegalArgument
            held(0, 2, 0) = 5
            held(3, 2, 0) = 6
            held(4, 2, 0) throws IllegalArgument
            held(MIN, 2, 0) throws IllegalArgument
            held(MAX, 2, 0) throws IllegalArgument
            """);
        runs.run("promise 19: owners 0 .. 5", """
            issue(1, 0, 5)
            issue(1, 5, 6)
            held(1, -1, 0) throws IllegalArgument
            held(1, 0, 0) = 5
            held(1, 5, 0) = 6
            held(1, 6, 0) throws IllegalArgument
            held(1, MIN, 2) throws IllegalArgument
            held(1, MAX, 2) throws IllegalArgument
            """);
        runs.run("promise 19: what 0 .. 2", """
            issue(1, 0, 5)
            issue(1, 3, 6)
            place(1, 0, 2)
            link(0, 3)
            held(1, 0, -1) throws IllegalArgument
            held(1, 0, 0) = 5
            held(1, 0, 1) = 3
            held(1, 0, 2) = 11
            held(1, 0, 3) throws IllegalArgument
            held(1, 0, MIN) throws IllegalArgument
            held(1, 0, MAX) throws IllegalArgument
            """);
        runs.each("$o", 6, "promise 19: all free, none free, alone in the group", """
            issue(2, $o, 1000000)
            held(2, $o, 1) = 1000000
            place(2, $o, 1000000)
            held(2, $o, 0) = 1000000
            held(2, $o, 1) = 0
            held(2, $o, 2) = 1000000
            held(2, $o+, 2) = 0
            link($o, $o+)
            held(2, $o+, 0) = 0
            held(2, $o+, 1) = 0
            held(2, $o+, 2) = 1000000
            """);
        runs.run("promise 19: free with several vessels, also such as came from others", """
            issue(0, 1, 100)
            vessel(0, 1)
            vessel(5, 1)
            place(0, 0, 10)
            place(0, 1, 20)
            place(0, 5, 70)
            held(0, 1, 1) = 0
            held(0, 0, 1) = 0
            place(0, 5, -70)
            vessel(5, 2)
            held(0, 1, 1) = 70
            held(0, 2, 1) = 0
            """);
    }
}
