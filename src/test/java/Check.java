import java.util.ArrayList;
import java.util.List;

/** Counts answers that are not as due, and says in which line of a test each was asked for. */
final class Check {
    private int wrong = 0;

    interface Call {
        void make();
    }

    void due(long want, long got) {
        if (got != want) {
            complain("answered " + got + ", due is " + want);
        }
    }

    void argument(QuotaRegister x, Call call) {
        refused(x, IllegalArgumentException.class, call);
    }

    void state(QuotaRegister x, Call call) {
        refused(x, IllegalStateException.class, call);
    }

    void index(QuotaRegister x, Call call) {
        refused(x, IndexOutOfBoundsException.class, call);
    }

    /** A call that throws must throw just this class, and change nothing that can be asked for. */
    private void refused(QuotaRegister x, Class<? extends RuntimeException> want, Call call) {
        List<Long> before = answersOf(x);
        Class<?> got = null;
        try {
            call.make();
        } catch (RuntimeException e) {
            got = e.getClass();
        }
        if (got != want) {
            complain("threw " + got + ", due is " + want);
        }
        if (!answersOf(x).equals(before)) {
            complain("changed something although it threw");
        }
    }

    /** Every figure that the register tells of itself. */
    static List<Long> answersOf(QuotaRegister x) {
        List<Long> answers = new ArrayList<>();
        for (int what = 0; what < 4; what++) {
            answers.add((long) x.about(what));
        }
        for (int i = 0; i < 4 * 6 * 3; i++) {
            answers.add((long) x.held(i / 18, i / 3 % 6, i % 3));
        }
        for (int i = 0; i < x.about(2) * 4; i++) {
            answers.add((long) x.event(i / 4, i % 4));
        }
        for (int year = 1; year <= x.about(0); year++) {
            for (int i = 0; i < 6 * 4 * 9; i++) {
                answers.add((long) x.account(year, i / 36, i / 9 % 4, i % 9));
            }
            for (int owner = 0; owner < 6; owner++) {
                answers.add(x.levy(owner, year));
            }
        }
        return answers;
    }

    void complain(String what) {
        wrong++;
        System.out.println(placeInTest() + ": " + what);
    }

    private static String placeInTest() {
        for (StackTraceElement frame : new Throwable().getStackTrace()) {
            if (!frame.getClassName().startsWith("Check")) {
                return frame.getFileName() + ":" + frame.getLineNumber();
            }
        }
        return "somewhere";
    }

    /** Ends the test's program. */
    void finish() {
        if (wrong != 0) {
            System.out.println(wrong + " answers are not as due");
            System.exit(1);
        }
    }
}
