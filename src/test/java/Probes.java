import java.util.ArrayList;
import java.util.List;

/**
 * What a register keeps to itself (caps, links, factors, which years are reopened) shows only in what
 * later calls answer. Each probe makes one set of such calls; what it hears is all in its answers.
 */
final class Probes {
    static final int COUNT = 46;
    /** No probe makes more. */
    static final int MOST_CALLS = 225;

    private final QuotaRegister x;
    private final List<String> answers = new ArrayList<>();

    private Probes(QuotaRegister x) {
        this.x = x;
    }

    static List<String> answersTo(int probe, QuotaRegister x) {
        Probes probes = new Probes(x);
        probes.make(probe);
        if (probes.answers.size() > MOST_CALLS) {
            throw new IllegalStateException("probe " + probe + " makes too many calls");
        }
        return probes.answers;
    }

    private void make(int probe) {
        if (probe < 8) {
            yearIs(probe + 1);
        } else if (probe < 12) {
            eventsAre((probe - 8) * 50);
        } else if (probe < 40) {
            speciesTakes((probe - 12) / 4, probe % 4);
        } else {
            restIs(probe);
        }
    }

    private void speciesTakes(int which, int s) {
        switch (which) {
            case 0:
                issues(s);
                break;
            case 1:
                sales(s);
                break;
            case 2:
                placings(s);
                break;
            case 3:
                takingsOff(s);
                break;
            case 4:
                leases(s);
                break;
            case 5:
                equivalents(s);
                break;
            default:
                landings(s);
                break;
        }
    }

    private void restIs(int probe) {
        switch (probe) {
            case 40:
                holdingsAre();
                break;
            case 41:
                linksAre();
                break;
            case 42:
                yearsTake();
                break;
            case 43:
                strikes();
                break;
            case 44:
                roomForEvents();
                break;
            default:
                nextYearGets();
                break;
        }
    }

    private String ask(String name, Object... arguments) {
        String answer = Call.of(name, arguments).on(x);
        answers.add(answer);
        return answer;
    }

    private int latestYear() {
        return Integer.parseInt(ask("about", 0));
    }

    /** Makes sure, if it can be, that the latest year takes landings. */
    private int yearForLandings() {
        ask("open", 1000, 1000, 1000, 1000);
        int year = latestYear();
        ask("reopen", year);
        return year;
    }

    private void yearIs(int year) {
        if (year > latestYear()) {
            return;
        }
        for (int i = 0; i < 6 * 4 * 9; i++) {
            ask("account", year, i / 36, i / 9 % 4, i % 9);
        }
        for (int owner = 0; owner < 6; owner++) {
            ask("levy", owner, year);
        }
    }

    private void eventsAre(int first) {
        int count = Integer.parseInt(ask("about", 2));
        ask("about", 3);
        for (int i = first; i < Math.min(count, first + 50); i++) {
            for (int what = 0; what < 4; what++) {
                ask("event", i, what);
            }
        }
    }

    /** Bit by bit, the most that a call takes comes together. */
    private void bits(int highest, String name, int... arguments) {
        Object[] all = new Object[arguments.length + 1];
        for (int i = 0; i < arguments.length; i++) {
            all[i] = arguments[i];
        }
        for (int bit = highest; bit >= 0; bit--) {
            all[arguments.length] = 1 << bit;
            ask(name, all.clone());
        }
    }

    private void issues(int s) {
        for (int owner = 0; owner < 6; owner++) {
            bits(19, "issue", s, owner);
        }
    }

    private void sales(int s) {
        for (int owner = 0; owner < 6; owner++) {
            bits(19, "sell", s, owner, (owner + 1) % 6);
        }
    }

    private void placings(int s) {
        for (int v = 0; v < 6; v++) {
            ask("place", s, v, 0);
            bits(19, "place", s, v);
        }
    }

    private void takingsOff(int s) {
        for (int v = 0; v < 6; v++) {
            for (int bit = 19; bit >= 0; bit--) {
                ask("place", s, v, -(1 << bit));
            }
            ask("vessel", v, (v + 1) % 6);
        }
    }

    private void leases(int s) {
        for (int v = 0; v < 6; v++) {
            bits(19, "lease", s, v, (v + 1) % 6);
        }
    }

    private void equivalents(int s) {
        int year = latestYear();
        for (int v = 0; v < 6; v++) {
            ask("land", year, v, s, 0, 1500, false);
            for (int to = 1; to < 4; to++) {
                bits(9, "equivalent", v, s, (s + to) % 4);
            }
        }
    }

    /** Factors show in the live weights, values and the owners of vessels in the levies. */
    private void landings(int s) {
        int year = yearForLandings();
        for (int i = 0; i < 18; i++) {
            String told = ask("land", year, i / 3, s, i % 3, 1000 << i / 3, i % 2 == 1);
            if (!told.startsWith("throws")) {
                ask("event", Integer.valueOf(told), 3);
            }
        }
        ask("end");
        for (int owner = 0; owner < 6; owner++) {
            ask("levy", owner, year);
        }
    }

    private void holdingsAre() {
        ask("about", 1);
        for (int i = 0; i < 4 * 6 * 3; i++) {
            ask("held", i / 18, i / 3 % 6, i % 3);
        }
    }

    private void linksAre() {
        for (int i = 0; i < 36; i++) {
            if (i / 6 < i % 6) {
                ask("unlink", i / 6, i % 6);
            }
        }
        for (int owner = 0; owner < 5; owner++) {
            ask("link", owner, owner + 1);
            ask("held", 0, owner, 2);
        }
    }

    private void yearsTake() {
        for (int year = 1; year <= 8; year++) {
            ask("land", year, 0, 0, 0, 1, false);
            ask("reopen", year);
            ask("land", year, 0, 0, 0, 1, false);
        }
        ask("about", 3);
    }

    private void strikes() {
        int count = Integer.parseInt(ask("about", 2));
        for (int i = 0; i < count; i++) {
            ask("strike", i);
        }
        ask("about", 3);
    }

    private void roomForEvents() {
        int year = yearForLandings();
        String told = "";
        for (int i = 0; i <= 200 && !told.startsWith("throws"); i++) {
            told = ask("land", year, 5, 3, 2, 1, false);
        }
        ask("about", 2);
    }

    private void nextYearGets() {
        ask("end");
        ask("open", 777777, 1000000, 19, 101);
        int year = latestYear();
        for (int i = 0; i < 24; i++) {
            ask("account", year, i / 4, i % 4, 0);
            ask("account", year, i / 4, i % 4, 5);
        }
        ask("end");
    }
}
