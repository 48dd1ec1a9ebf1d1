/** Promises 1 to 9 and 19: species, factors, vessels, links, parts. */
public final class SharesTest {
    private static final int MIN = Integer.MIN_VALUE;
    private static final int MAX = Integer.MAX_VALUE;

    public static void main(String[] args) {
        Check check = new Check();
        promise1NewObject(check);
        promise2Species(check);
        promise2SpeciesLooksAtGroups(check);
        promise3Factor(check);
        promise4Vessel(check);
        promise5Link(check);
        promise5LinkLooksAtEverySpecies(check);
        promise5LongestChains(check);
        promise6Unlink(check);
        promise7Issue(check);
        promise7IssueLooksAtGroups(check);
        promise8Sell(check);
        promise8SellWithinAGroup(check);
        promise9Place(check);
        promise19Held(check);
        check.finish();
    }

    private static void promise1NewObject(Check check) {
        QuotaRegister x = new QuotaRegister();
        for (int what = 0; what < 4; what++) {
            check.due(0, x.about(what));
        }
        for (int s = 0; s < 4; s++) {
            for (int owner = 0; owner < 6; owner++) {
                check.due(0, x.held(s, owner, 0));
                check.due(0, x.held(s, owner, 1));
                check.due(0, x.held(s, owner, 2));
            }
        }
        for (int a = 0; a < 6; a++) {
            for (int b = 0; b < 6; b++) {
                int first = a;
                int second = b;
                if (a != b) {
                    check.state(() -> x.unlink(first, second));
                }
            }
        }
        // Caps of 1000000: one owner can hold all there is.
        for (int s = 0; s < 4; s++) {
            check.due(1000000, x.issue(s, 5 - s, 1000000));
            check.due(1000000, x.place(s, 5 - s, 1000000));
        }
        check.due(1, x.open(100, 100, 100, 100));
        // Factors of 1000 and values of 1, for every species and form.
        for (int s = 0; s < 4; s++) {
            for (int form = 0; form < 3; form++) {
                int told = x.land(1, 5 - s, s, form, 7 + form, false);
                check.due(7 + form, x.event(told, 3));
            }
            x.land(1, 5 - s, s, 0, 100, false);
        }
        check.due(4, x.end());
        for (int s = 0; s < 4; s++) {
            check.due(19, x.levy(5 - s, 1));
        }
    }

    private static void promise2Species(Check check) {
        QuotaRegister x = new QuotaRegister();
        x.species(0, 1, 0);
        x.species(3, 1000, 1000000);
        check.argument(() -> x.species(-1, 1, 5));
        check.argument(() -> x.species(4, 1, 5));
        check.argument(() -> x.species(MIN, 1, 5));
        check.argument(() -> x.species(MAX, 1, 5));
        check.argument(() -> x.species(0, 0, 5));
        check.argument(() -> x.species(0, -1, 5));
        check.argument(() -> x.species(0, 1001, 5));
        check.argument(() -> x.species(0, 1, -1));
        check.argument(() -> x.species(0, 1, 1000001));
        check.argument(() -> x.species(0, MAX, MAX));
        check.state(() -> x.issue(0, 0, 1));
        x.species(0, 7, 10);
        check.due(10, x.issue(0, 0, 10));
        check.state(() -> x.issue(0, 0, 1));
        // Neither value nor cap changes when the call throws.
        check.argument(() -> x.species(0, 8, 9));
        check.argument(() -> x.species(0, 1001, 20));
        check.state(() -> x.issue(0, 0, 1));
        x.open(0, 0, 0, 0);
        x.land(1, 0, 0, 0, 3, false);
        x.land(1, 0, 3, 0, 2, false);
        x.end();
        check.due(3 * 7 + 2 * 1000, x.levy(0, 1));
        // Just what is held is enough of a cap; another species has its own.
        x.species(0, 9, 10);
        check.due(3 * 9 + 2 * 1000, x.levy(0, 1));
        x.species(1, 5, 0);
    }

    private static void promise2SpeciesLooksAtGroups(Check check) {
        QuotaRegister x = new QuotaRegister();
        x.issue(2, 0, 30);
        x.issue(2, 1, 40);
        x.issue(2, 5, 60);
        x.link(0, 1);
        check.argument(() -> x.species(2, 1, 69));
        x.species(2, 1, 70);
        x.unlink(1, 0);
        x.species(2, 1, 60);
        check.argument(() -> x.species(2, 1, 59));
        check.state(() -> x.link(0, 1));
    }

    private static void promise3Factor(Check check) {
        QuotaRegister x = new QuotaRegister();
        check.argument(() -> x.factor(-1, 0, 5));
        check.argument(() -> x.factor(4, 0, 5));
        check.argument(() -> x.factor(MIN, 0, 5));
        check.argument(() -> x.factor(0, -1, 5));
        check.argument(() -> x.factor(0, 3, 5));
        check.argument(() -> x.factor(0, MAX, 5));
        check.argument(() -> x.factor(0, 0, -1));
        check.argument(() -> x.factor(0, 0, 5001));
        x.open(0, 0, 0, 0);
        x.factor(3, 2, 5000);
        x.factor(1, 1, 0);
        x.factor(1, 0, 1);
        check.due(10, x.event(x.land(1, 0, 3, 2, 2, false), 3));
        check.due(2, x.event(x.land(1, 0, 3, 1, 2, false), 3));
        check.due(2, x.event(x.land(1, 0, 2, 2, 2, false), 3));
        check.due(2, x.event(x.land(1, 0, 1, 0, 2000, false), 3));
        check.argument(() -> x.land(1, 0, 1, 1, 2, false));
        x.factor(1, 1, 1500);
        check.due(3, x.event(x.land(1, 0, 1, 1, 2, false), 3));
    }

    private static void promise4Vessel(Check check) {
        QuotaRegister x = new QuotaRegister();
        check.argument(() -> x.vessel(-1, 0));
        check.argument(() -> x.vessel(6, 0));
        check.argument(() -> x.vessel(0, -1));
        check.argument(() -> x.vessel(0, 6));
        check.argument(() -> x.vessel(MIN, MAX));
        x.issue(3, 0, 10);
        check.state(() -> x.place(3, 5, 1));
        x.vessel(5, 0);
        check.due(4, x.place(3, 5, 4));
        check.due(6, x.place(3, 0, 6));
        check.state(() -> x.vessel(5, 1));
        check.state(() -> x.vessel(5, 0));
        check.argument(() -> x.vessel(5, 6));
        check.due(0, x.place(3, 5, -4));
        x.vessel(5, 1);
        check.state(() -> x.place(3, 5, 1));
        check.due(10, x.place(3, 0, 4));
        check.state(() -> x.vessel(0, 0));
        x.vessel(1, 1);
        // One part of any species is enough to keep a vessel.
        for (int s = 0; s < 3; s++) {
            x.issue(s, 2, 1);
            x.place(s, 2, 1);
            check.state(() -> x.vessel(2, 3));
            x.place(s, 2, -1);
            x.vessel(2, 3);
            x.vessel(2, 2);
        }
    }

    private static void promise5Link(Check check) {
        QuotaRegister x = new QuotaRegister();
        check.argument(() -> x.link(0, 0));
        check.argument(() -> x.link(-1, 0));
        check.argument(() -> x.link(0, -1));
        check.argument(() -> x.link(6, 0));
        check.argument(() -> x.link(0, 6));
        check.argument(() -> x.link(MIN, MAX));
        for (int owner = 0; owner < 6; owner++) {
            x.issue(1, owner, 1 << owner);
        }
        // A chain whose ends hang together only through all the others.
        x.link(5, 2);
        x.link(2, 4);
        x.link(0, 3);
        check.due(4 + 16 + 32, x.held(1, 4, 2));
        check.due(1 + 8, x.held(1, 0, 2));
        x.link(4, 0);
        x.link(3, 1);
        for (int owner = 0; owner < 6; owner++) {
            check.due(63, x.held(1, owner, 2));
        }
        // Again, and the other way round, changes nothing; one unlink then does away with it.
        x.link(1, 3);
        x.link(3, 1);
        x.unlink(1, 3);
        check.state(() -> x.unlink(3, 1));
        check.due(2, x.held(1, 1, 2));
        check.due(61, x.held(1, 5, 2));
        x.species(1, 1, 62);
        check.state(() -> x.link(1, 5));
        check.state(() -> x.link(3, 1));
        x.species(1, 1, 63);
        x.link(1, 5);
        check.due(63, x.held(1, 1, 2));
        // Within a group that is at its cap a further link adds nothing.
        x.link(1, 2);
        check.argument(() -> x.link(1, 1));
    }

    private static void promise5LinkLooksAtEverySpecies(Check check) {
        for (int s = 0; s < 4; s++) {
            QuotaRegister x = new QuotaRegister();
            x.issue(s, 0, 6);
            x.issue(s, 1, 5);
            x.issue(s, 2, 4);
            x.species(s, 1, 10);
            check.state(() -> x.link(0, 1));
            x.link(0, 2);
            check.state(() -> x.link(2, 1));
            check.due(10, x.held(s, 2, 2));
            check.due(5, x.held(s, 1, 2));
        }
    }

    private static void promise5LongestChains(Check check) {
        QuotaRegister x = new QuotaRegister();
        for (int owner = 0; owner < 6; owner++) {
            x.issue(0, owner, 1 << owner);
        }
        for (int owner = 5; owner > 0; owner--) {
            x.link(owner, owner - 1);
        }
        for (int owner = 0; owner < 6; owner++) {
            check.due(63, x.held(0, owner, 2));
        }
        x.unlink(2, 3);
        check.due(7, x.held(0, 0, 2));
        check.due(56, x.held(0, 5, 2));
    }

    private static void promise6Unlink(Check check) {
        QuotaRegister x = new QuotaRegister();
        check.argument(() -> x.unlink(3, 3));
        check.argument(() -> x.unlink(-1, 3));
        check.argument(() -> x.unlink(3, -1));
        check.argument(() -> x.unlink(6, 3));
        check.argument(() -> x.unlink(3, 6));
        check.state(() -> x.unlink(3, 4));
        for (int owner = 0; owner < 6; owner++) {
            x.issue(0, owner, 1 << owner);
        }
        x.link(0, 1);
        x.link(1, 2);
        // In one group, but not linked with each other.
        check.state(() -> x.unlink(0, 2));
        check.state(() -> x.unlink(2, 0));
        x.link(2, 0);
        // A ring that is cut once still hangs together.
        x.unlink(1, 0);
        check.due(7, x.held(0, 0, 2));
        check.due(7, x.held(0, 1, 2));
        check.state(() -> x.unlink(0, 1));
        x.unlink(1, 2);
        check.due(5, x.held(0, 0, 2));
        check.due(2, x.held(0, 1, 2));
        check.due(5, x.held(0, 2, 2));
    }

    private static void promise7Issue(Check check) {
        QuotaRegister x = new QuotaRegister();
        check.argument(() -> x.issue(-1, 0, 1));
        check.argument(() -> x.issue(4, 0, 1));
        check.argument(() -> x.issue(0, -1, 1));
        check.argument(() -> x.issue(0, 6, 1));
        check.argument(() -> x.issue(0, 0, 0));
        check.argument(() -> x.issue(0, 0, -1));
        check.argument(() -> x.issue(0, 0, 1000001));
        check.argument(() -> x.issue(0, 0, MAX));
        check.due(1, x.issue(0, 0, 1));
        check.due(999999, x.issue(0, 0, 999998));
        check.state(() -> x.issue(0, 3, 2));
        check.state(() -> x.issue(0, 3, 1000000));
        check.due(1, x.issue(0, 3, 1));
        check.state(() -> x.issue(0, 4, 1));
        check.due(1000000, x.issue(1, 5, 1000000));
        x.open(0, 0, 0, 0);
        check.state(() -> x.issue(2, 0, 1));
        check.argument(() -> x.issue(2, 0, 0));
        x.end();
        check.state(() -> x.issue(2, 0, 1));
    }

    private static void promise7IssueLooksAtGroups(Check check) {
        QuotaRegister x = new QuotaRegister();
        x.species(2, 1, 100);
        x.link(1, 3);
        check.due(60, x.issue(2, 1, 60));
        check.state(() -> x.issue(2, 3, 41));
        check.due(40, x.issue(2, 3, 40));
        check.state(() -> x.issue(2, 1, 1));
        check.due(100, x.issue(2, 2, 100));
        check.state(() -> x.issue(2, 2, 1));
        check.due(101, x.issue(1, 1, 101));
    }

    private static void promise8Sell(Check check) {
        QuotaRegister x = new QuotaRegister();
        x.issue(1, 0, 100);
        check.argument(() -> x.sell(-1, 0, 1, 5));
        check.argument(() -> x.sell(4, 0, 1, 5));
        check.argument(() -> x.sell(1, -1, 1, 5));
        check.argument(() -> x.sell(1, 6, 1, 5));
        check.argument(() -> x.sell(1, 0, -1, 5));
        check.argument(() -> x.sell(1, 0, 6, 5));
        check.argument(() -> x.sell(1, 0, 0, 5));
        check.argument(() -> x.sell(1, 0, 1, 0));
        check.argument(() -> x.sell(1, 0, 1, -5));
        check.argument(() -> x.sell(1, 0, 1, 1000001));
        check.argument(() -> x.sell(1, 0, 1, MIN));
        check.state(() -> x.sell(0, 0, 1, 1));
        check.state(() -> x.sell(1, 1, 0, 1));
        check.state(() -> x.sell(1, 0, 1, 101));
        x.place(1, 0, 30);
        check.state(() -> x.sell(1, 0, 1, 71));
        x.sell(1, 0, 1, 20);
        check.due(80, x.held(1, 0, 0));
        check.due(50, x.held(1, 0, 1));
        check.due(20, x.held(1, 1, 0));
        x.sell(1, 0, 1, 50);
        check.state(() -> x.sell(1, 0, 1, 1));
        check.due(30, x.held(1, 0, 0));
        x.species(1, 1, 80);
        x.sell(1, 1, 2, 70);
        check.state(() -> x.sell(1, 1, 2, 1));
        x.place(1, 0, -30);
        check.state(() -> x.sell(1, 0, 2, 11));
        // Selling goes on when a year was opened.
        x.open(0, 0, 0, 0);
        x.sell(1, 0, 2, 10);
        check.due(80, x.held(1, 2, 0));
        check.due(20, x.held(1, 0, 0));
    }

    private static void promise8SellWithinAGroup(Check check) {
        QuotaRegister x = new QuotaRegister();
        x.issue(0, 0, 60);
        x.issue(0, 2, 40);
        x.issue(0, 4, 100);
        x.link(0, 1);
        x.link(1, 2);
        x.species(0, 1, 100);
        // The group is at its cap: parts may go round in it, but none may come in.
        x.sell(0, 0, 2, 60);
        check.due(100, x.held(0, 2, 0));
        check.state(() -> x.sell(0, 4, 1, 1));
        x.sell(0, 2, 3, 100);
        x.sell(0, 4, 1, 100);
        check.due(100, x.held(0, 0, 2));
        check.due(100, x.held(0, 1, 0));
    }

    private static void promise9Place(Check check) {
        QuotaRegister x = new QuotaRegister();
        check.argument(() -> x.place(-1, 0, 1));
        check.argument(() -> x.place(4, 0, 1));
        check.argument(() -> x.place(0, -1, 1));
        check.argument(() -> x.place(0, 6, 1));
        check.argument(() -> x.place(MAX, MIN, 1));
        check.due(0, x.place(0, 0, 0));
        check.state(() -> x.place(0, 0, 1));
        check.state(() -> x.place(0, 0, -1));
        x.issue(0, 2, 100);
        x.issue(1, 2, 5);
        x.vessel(4, 2);
        check.due(60, x.place(0, 2, 60));
        check.due(40, x.held(0, 2, 1));
        check.state(() -> x.place(0, 4, 41));
        check.state(() -> x.place(0, 3, 1));
        check.due(40, x.place(0, 4, 40));
        check.state(() -> x.place(0, 2, 1));
        check.due(60, x.place(0, 2, 0));
        check.state(() -> x.place(0, 4, -41));
        check.state(() -> x.place(0, 4, MIN));
        check.state(() -> x.place(0, 4, MAX));
        check.due(1, x.place(0, 4, -39));
        check.due(0, x.place(0, 4, -1));
        check.due(100, x.place(0, 2, 40));
        check.due(5, x.place(1, 2, 5));
        // What others of the group hold is not the owner's.
        x.link(2, 3);
        check.state(() -> x.place(0, 3, 1));
        x.open(0, 0, 0, 0);
        check.due(90, x.place(0, 2, -10));
    }

    private static void promise19Held(Check check) {
        QuotaRegister x = new QuotaRegister();
        x.issue(2, 1, 100);
        x.issue(2, 4, 7);
        x.issue(3, 1, 9);
        x.vessel(0, 1);
        x.place(2, 0, 20);
        x.place(2, 1, 30);
        x.place(3, 1, 1);
        x.link(4, 1);
        check.due(100, x.held(2, 1, 0));
        check.due(50, x.held(2, 1, 1));
        check.due(107, x.held(2, 1, 2));
        check.due(7, x.held(2, 4, 0));
        check.due(7, x.held(2, 4, 1));
        check.due(107, x.held(2, 4, 2));
        check.due(8, x.held(3, 1, 1));
        check.due(0, x.held(2, 0, 0));
        check.due(0, x.held(2, 0, 1));
        check.due(0, x.held(2, 0, 2));
        check.argument(() -> x.held(-1, 1, 0));
        check.argument(() -> x.held(4, 1, 0));
        check.argument(() -> x.held(2, -1, 0));
        check.argument(() -> x.held(2, 6, 0));
        check.argument(() -> x.held(2, 1, -1));
        check.argument(() -> x.held(2, 1, 3));
        check.argument(() -> x.held(MIN, MAX, MAX));
    }
}
