/** Calls that are refused, and that they leave everything as it was: the answers, what can be undone, the buffer. */
final class Refusal {
    static final String THROWN = "throws.IndexOutOfBoundsException";

    private static final int MOST_CALLS = 512;
    // Just 20 bytes: what one feed appends.
    private static final String FED = "member zz;section y;";

    interface Steps {
        void on(PatronageBooks x);
    }

    interface Call {
        Object on(PatronageBooks x);
    }

    private Refusal() {
    }

    static void of(String what, String text, Call call, Object due) {
        of(what, text, x -> { }, call, due);
    }

    /** The steps lead from the text to the place where the call is refused. */
    static void of(String what, String text, Steps steps, Call call, Object due) {
        answersStay(what, ready(text, steps), call, due);
        // A second object, so that both stay within the calls of one.
        changesAndBufferStay(what, ready(text, steps), call);
    }

    private static PatronageBooks ready(String text, Steps steps) {
        PatronageBooks x = Texts.books(text);
        steps.on(x);
        return x;
    }

    private static void answersStay(String what, PatronageBooks x, Call call, Object due) {
        x.setSetting(PatronageBooks.CASH, 77);
        int undoable = x.undoCount();
        State before = State.of(x);
        Check.same(what, answer(x, call), String.valueOf(due));
        State.same(what + ": nothing changes", State.of(x), before);
        Check.same(what + ": undoCount", x.undoCount(), undoable);
        // Twice the state, and a hundred for the text and the steps.
        Check.same(what + ": within the calls of one object", 2 * before.calls() + 100 <= MOST_CALLS, true);
    }

    private static void changesAndBufferStay(String what, PatronageBooks x, Call call) {
        State earlier = State.of(x);
        x.setSetting(PatronageBooks.CASH, 77);
        Texts.feed(x, FED);
        int undoable = x.undoCount();
        answer(x, call);
        Check.same(what + ": undo", x.undo(), undoable - 1);
        State.same(what + ": undo brings back", State.of(x), earlier);
        Check.same(what + ": the buffer", x.load(FED.length()), 2);
    }

    /** The answer as a text; an exception by its name, as the issues write it. */
    static String answer(PatronageBooks x, Call call) {
        try {
            return String.valueOf(call.on(x));
        } catch (RuntimeException e) {
            return "throws." + e.getClass().getName().replace("java.lang.", "");
        }
    }
}
