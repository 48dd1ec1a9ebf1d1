/** Counts answers that are not as due, and says in which line of a test each was asked for. */
final class Check {
    private int wrong = 0;

    interface Refused {
        void make();
    }

    void due(long want, long got) {
        if (got != want) {
            complain("answered " + got + ", due is " + want);
        }
    }

    void argument(Refused call) {
        refused(IllegalArgumentException.class, call);
    }

    void state(Refused call) {
        refused(IllegalStateException.class, call);
    }

    void index(Refused call) {
        refused(IndexOutOfBoundsException.class, call);
    }

    private void refused(Class<? extends RuntimeException> want, Refused call) {
        Class<?> got = null;
        try {
            call.make();
        } catch (RuntimeException e) {
            got = e.getClass();
        }
        if (got != want) {
            complain("threw " + got + ", due is " + want);
        }
    }

    void complain(String what) {
        wrong++;
        System.out.println(placeInTest() + ": " + what);
    }

    private static String placeInTest() {
        for (StackTraceElement frame : new Throwable().getStackTrace()) {
            if (!frame.getClassName().startsWith("Check")) {
                return frame.getFileName() + ":" + frame.getLineNumber();
            }
        }
        return "somewhere";
    }

    /** Ends the test's program. */
    void finish() {
        if (wrong != 0) {
            System.out.println(wrong + " answers are not as due");
            System.exit(1);
        }
    }
}
