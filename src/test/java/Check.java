/** Counts answers that are as due and prints those that are not. */
final class Check {
    interface Call {
        Object answer();
    }

    private static int right = 0;
    private static int wrong = 0;
    private static String section = "";

    private Check() {
    }

    static void section(String name) {
        section = name;
    }

    static void same(String what, long got, long want) {
        note(what, got == want, Long.toString(got), Long.toString(want));
    }

    static void same(String what, boolean got, boolean want) {
        note(what, got == want, Boolean.toString(got), Boolean.toString(want));
    }

    static void same(String what, double got, double want) {
        note(what, Double.compare(got, want) == 0, Double.toString(got), Double.toString(want));
    }

    static void same(String what, String got, String want) {
        note(what, got.equals(want), got, want);
    }

    /** The exception must be the one of the document itself, not one that the machine throws. */
    static void refused(String what, Call call) {
        String got;
        try {
            got = String.valueOf(call.answer());
        } catch (RuntimeException e) {
            got = e.getClass().getName();
        }
        String want = IndexOutOfBoundsException.class.getName();
        note(what, got.equals(want), got, want);
    }

    static void note(String what, boolean good, String got, String want) {
        if (good) {
            right++;
        } else {
            wrong++;
            System.out.println(section + ": " + what + " answered " + got + ", due is " + want);
        }
    }

    static void end() {
        System.out.println(right + " answers as due, " + wrong + " not");
        if (wrong != 0 || right == 0) {
            System.exit(1);
        }
    }
}
