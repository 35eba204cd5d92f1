/** The boundary cases that the promises 47 to 53 name, each sentence by itself, and what a refused change leaves. */
public final class EdgesOfChangesTest {
    private static final int NOT_FOUND = PatronageBooks.NOT_FOUND;
    private static final int BAD_VALUE = PatronageBooks.BAD_VALUE;
    private static final int FULL = PatronageBooks.FULL;
    private static final int IN_USE = PatronageBooks.IN_USE;
    private static final int LOW = Integer.MIN_VALUE;
    private static final int HIGH = Integer.MAX_VALUE;

    private static final String EIGHT = "member a;member b;member c;member d;member e;member f;member g;member h;";
    private static final String FOUR = "section p;section q;section r;section s;";
    // Certificates of 10 for two members and two years; the third member has nothing.
    private static final String TENS = "member a;member b;member c;section s;section t;set reserve 0;set keep 0;"
            + "trade a s 1;trade b s 1;close 20 0;trade a s 1;trade b s 1;close 20 0;";
    private static final String LAST_YEAR = "member a;section s;" + "close 0;".repeat(24);

    public static void main(String[] args) {
        tradeIndices();
        tradeAmount();
        tradeInUse();
        tradeFull();
        tradeOrder();
        closeResults();
        closeFull();
        closeOrder();
        redeemBudget();
        redeemNothing();
        leaveIndices();
        leaveInUse();
        leaveAnswers();
        setConsentIndices();
        setConsentAgain();
        setSettingNames();
        setSettingRanges();
        setSettingAgain();
        undoNone();
        undoAnswers();
        undoBehindRefusals();
        lastCall();
        Check.end();
    }

    private static void tradeIndices() {
        Check.section("promise 47: NOT_FOUND if member or department is not a valid index");
        int[] members = {-1, 3, 8, LOW, HIGH};
        for (int m : members) {
            Refusal.of("member " + m, TENS, x -> x.trade(m, 0, 1), NOT_FOUND);
        }
        int[] departments = {-1, 2, 4, LOW, HIGH};
        for (int d : departments) {
            Refusal.of("department " + d, TENS, x -> x.trade(0, d, 1), NOT_FOUND);
        }
        Refusal.of("no members", "section s;", x -> x.trade(0, 0, 1), NOT_FOUND);
        Refusal.of("no departments", "member a;", x -> x.trade(0, 0, 1), NOT_FOUND);
        PatronageBooks x = Texts.books(EIGHT + FOUR);
        Check.same("the last of both", x.trade(7, 3, 1), 1);
        Check.same("one behind", x.trade(8, 3, 1), NOT_FOUND);
        Check.same("one behind", x.trade(7, 4, 1), NOT_FOUND);
    }

    private static void tradeAmount() {
        Check.section("promise 47: amount 1 to 100000; BAD_VALUE if amount is out of range");
        int[] bad = {0, -1, 100001, LOW, HIGH};
        for (int amount : bad) {
            Refusal.of("amount " + amount, TENS, x -> x.trade(0, 0, amount), BAD_VALUE);
        }
        PatronageBooks x = Texts.books(TENS);
        Check.same("1", x.trade(0, 0, 1), 1);
        Check.same("100000", x.trade(0, 0, 100000), 100001);
        Check.same("the patronage of this department", x.trade(0, 1, 100000), 100000);
        Check.same("the patronage of this member", x.trade(2, 0, 100000), 100000);
    }

    private static void tradeInUse() {
        Check.section("promise 47: IN_USE if the member is not ACTIVE");
        Refusal.of("leaving", TENS, x -> x.leave(0), x -> x.trade(0, 0, 1), IN_USE);
        Refusal.of("gone", TENS, x -> x.leave(2), x -> x.trade(2, 0, 1), IN_USE);
        Refusal.of("gone with the last installment", TENS, x -> {
            x.setSetting(PatronageBooks.YEARS, 1);
            x.leave(1);
            x.close(0, 0, 0, 0);
        }, x -> x.trade(1, 1, 100000), IN_USE);
        PatronageBooks x = Texts.books(TENS);
        x.leave(0);
        Check.same("the others are active", x.trade(1, 0, 1), 1);
        x.undo();
        x.undo();
        Check.same("active again", x.trade(0, 0, 1), 1);
    }

    private static void almostFull(PatronageBooks x) {
        for (int n = 0; n < 9; n++) {
            x.trade(0, 0, 100000);
        }
        x.trade(0, 0, 99999);
    }

    private static void tradeFull() {
        Check.section("promise 47: FULL if the patronage would be greater than 1000000");
        Refusal.of("2 more", TENS, x -> almostFull(x), x -> x.trade(0, 0, 2), FULL);
        Refusal.of("100000 more", TENS, x -> almostFull(x), x -> x.trade(0, 0, 100000), FULL);
        PatronageBooks x = Texts.books(TENS);
        almostFull(x);
        Check.same("1 more", x.trade(0, 0, 1), 1000000);
        Check.same("and one more", x.trade(0, 0, 1), FULL);
        Check.same("another department", x.trade(0, 1, 1), 1);
        Check.same("another member", x.trade(1, 0, 1), 1);
        x.close(0, 0, 0, 0);
        Check.same("another year", x.trade(0, 0, 1), 1);
    }

    private static void tradeOrder() {
        Check.section("promise 47: checked in this order");
        Refusal.of("the indices before the amount", TENS, x -> x.trade(3, 0, 0), NOT_FOUND);
        Refusal.of("the indices before the amount", TENS, x -> x.trade(0, 2, 100001), NOT_FOUND);
        Refusal.of("the amount before the state", TENS, x -> x.leave(0), x -> x.trade(0, 0, 0), BAD_VALUE);
        Refusal.of("the department before the state", TENS, x -> x.leave(0), x -> x.trade(0, 2, 1), NOT_FOUND);
        Refusal.of("the amount before the limit", TENS, x -> almostFull(x), x -> x.trade(0, 0, 100001), BAD_VALUE);
    }

    private static void closeResults() {
        Check.section("promise 48: BAD_VALUE if a result is out of range or is not 0 although there is no such department");
        for (int departments = 0; departments <= 4; departments++) {
            String text = "member a;" + FOUR.substring(0, 10 * departments);
            for (int place = 0; place < 4; place++) {
                int most = place < departments ? 1000000 : 0;
                String what = departments + " departments, place " + place + ", ";
                int[] bad = {-most - 1, most + 1, LOW, HIGH};
                for (int result : bad) {
                    int[] r = new int[4];
                    r[place] = result;
                    Refusal.of(what + result, text, x -> x.close(r[0], r[1], r[2], r[3]), BAD_VALUE);
                }
                int[] good = {-most, 0, most};
                for (int result : good) {
                    int[] r = new int[4];
                    r[place] = result;
                    PatronageBooks x = Texts.books(text);
                    Check.same(what + result, x.close(r[0], r[1], r[2], r[3]), 0);
                    Check.same(what + result, x.reserve(), result);
                }
            }
        }
    }

    private static void closeFull() {
        Check.section("promise 48: FULL if the present year is 24");
        Refusal.of("year 24", LAST_YEAR, x -> x.close(0, 0, 0, 0), FULL);
        Refusal.of("year 24", LAST_YEAR, x -> x.trade(0, 0, 1), x -> x.close(1000000, 0, 0, 0), FULL);
        PatronageBooks x = Texts.books("member a;section s;" + "close 0;".repeat(23));
        Check.same("year 23", x.close(5, 0, 0, 0), 23);
        Check.same("year 24", x.close(5, 0, 0, 0), FULL);
        Check.same("undo", x.undo(), 0);
        Check.same("year 23 again", x.close(6, 0, 0, 0), 23);
        Check.same("reserve", x.reserve(), 6);
    }

    private static void closeOrder() {
        Check.section("promise 48: checked in this order");
        Refusal.of("year 24", LAST_YEAR, x -> x.close(1000001, 0, 0, 0), BAD_VALUE);
        Refusal.of("year 24", LAST_YEAR, x -> x.close(0, 1, 0, 0), BAD_VALUE);
        Refusal.of("year 24", LAST_YEAR, x -> x.close(0, 0, 0, LOW), BAD_VALUE);
    }

    private static void redeemBudget() {
        Check.section("promise 49: budget 0 to 10000000; BAD_VALUE if budget is out of range");
        int[] bad = {-1, 10000001, LOW, HIGH};
        for (int budget : bad) {
            Refusal.of("budget " + budget, TENS, x -> x.redeem(budget), BAD_VALUE);
            Refusal.of("budget " + budget + ", nothing to redeem", "member a;", x -> x.redeem(budget), BAD_VALUE);
        }
        PatronageBooks x = Texts.books(TENS);
        Check.same("1", x.redeem(1), 1);
        Check.same("10000000", x.redeem(10000000), 39);
        Check.same("two changes", x.undoCount(), 2);
    }

    private static void redeemNothing() {
        Check.section("promise 49: 0, and nothing changes, if nothing is paid");
        Refusal.of("a budget of 0", TENS, x -> x.redeem(0), 0);
        Refusal.of("just too young", TENS, x -> x.setSetting(PatronageBooks.KEEP, 3), x -> x.redeem(10000000), 0);
        Refusal.of("nothing is left", TENS, x -> x.redeem(40), x -> x.redeem(10000000), 0);
        Refusal.of("nobody is active", TENS, x -> {
            x.leave(0);
            x.leave(1);
        }, x -> x.redeem(10000000), 0);
        Refusal.of("no members", "section s;", x -> x.redeem(1), 0);
        PatronageBooks x = Texts.books(TENS);
        x.setSetting(PatronageBooks.KEEP, 2);
        Check.same("just old enough", x.redeem(10000000), 20);
        Check.same("a change", x.undoCount(), 2);
    }

    private static void leaveIndices() {
        Check.section("promise 50: NOT_FOUND if member is not a valid index");
        int[] bad = {-1, 3, 8, LOW, HIGH};
        for (int m : bad) {
            Refusal.of("member " + m, TENS, x -> x.leave(m), NOT_FOUND);
        }
        Refusal.of("no members", "section s;", x -> x.leave(0), NOT_FOUND);
        PatronageBooks x = Texts.books(EIGHT);
        Check.same("the first", x.leave(0), 0);
        Check.same("the last", x.leave(7), 0);
        Check.same("one behind", x.leave(8), NOT_FOUND);
    }

    private static void leaveInUse() {
        Check.section("promise 50: IN_USE if the member is not ACTIVE or has patronage in the present year");
        Refusal.of("leaving", TENS, x -> x.leave(0), x -> x.leave(0), IN_USE);
        Refusal.of("gone", TENS, x -> x.leave(2), x -> x.leave(2), IN_USE);
        Refusal.of("a patronage of 1", TENS, x -> x.trade(0, 0, 1), x -> x.leave(0), IN_USE);
        Refusal.of("in the last department", TENS, x -> x.trade(0, 1, 1), x -> x.leave(0), IN_USE);
        Refusal.of("without equity", TENS, x -> x.trade(2, 1, 1), x -> x.leave(2), IN_USE);
        PatronageBooks full = Texts.books(EIGHT + FOUR);
        full.trade(7, 3, 1);
        Check.same("in the fourth department", full.leave(7), IN_USE);
        PatronageBooks x = Texts.books(TENS);
        x.trade(0, 0, 1);
        Check.same("another member", x.leave(1), 5);
        x.undo();
        x.undo();
        Check.same("undone", x.leave(0), 5);
        x.undo();
        x.trade(0, 0, 1);
        x.close(0, 0, 0, 0);
        Check.same("patronage of the year before", x.leave(0), 5);
    }

    private static void leaveAnswers() {
        Check.section("promise 50: the number of installments");
        PatronageBooks x = Texts.books(TENS);
        Check.same("none", x.leave(2), 0);
        Check.same("a change", x.undoCount(), 1);
        x.setSetting(PatronageBooks.YEARS, 1);
        Check.same("1", x.leave(0), 1);
        x.setSetting(PatronageBooks.YEARS, 10);
        Check.same("10", x.leave(1), 10);
        Check.same("five changes", x.undoCount(), 5);
        PatronageBooks late = Texts.books("member a;section s;" + "close 0;".repeat(23) + "trade a s 1;close 1;");
        Check.same("in year 24", late.leave(0), 5);
    }

    private static void setConsentIndices() {
        Check.section("promise 51: NOT_FOUND if member is not a valid index");
        int[] bad = {-1, 3, 8, LOW, HIGH};
        for (int m : bad) {
            Refusal.of("member " + m, TENS, x -> x.setConsent(m, true), NOT_FOUND);
            Refusal.of("member " + m, TENS, x -> x.setConsent(m, false), NOT_FOUND);
        }
        Refusal.of("no members", "section s;", x -> x.setConsent(0, true), NOT_FOUND);
        PatronageBooks x = Texts.books(EIGHT);
        Check.same("none at first", x.setConsent(3, false), 0);
        for (int m = 0; m < 8; m++) {
            Check.same("member " + m, x.setConsent(m, true), m + 1);
        }
        Check.same("one behind", x.setConsent(8, true), NOT_FOUND);
        Check.same("one less", x.setConsent(7, false), 7);
    }

    private static void setConsentAgain() {
        Check.section("promise 51: a change also if it is so already; earlier certificates keep their kind");
        PatronageBooks x = Texts.books(TENS);
        Check.same("as it is", x.setConsent(0, false), 0);
        Check.same("a change", x.undoCount(), 1);
        Check.same("another value", x.setConsent(0, true), 1);
        Check.same("as it is", x.setConsent(0, true), 1);
        Check.same("three changes", x.undoCount(), 3);
        Check.same("the kind", x.kindOf(0, 0), PatronageBooks.NONQUALIFIED);
        Check.same("undo", x.undo(), 2);
        Check.same("as it was", x.consents(0), true);
        Check.same("undo", x.undo(), 1);
        Check.same("as it was", x.consents(0), false);
        x.setConsent(0, true);
        x.trade(0, 0, 1);
        x.close(1, 0, 0, 0);
        x.setConsent(0, false);
        Check.same("the kind", x.kindOf(0, 2), PatronageBooks.QUALIFIED);
        x.leave(2);
        Check.same("of one that is gone", x.setConsent(2, true), 1);
    }

    private static void setSettingNames() {
        Check.section("promise 52: BAD_VALUE if setting is none of these");
        int[] bad = {-1, 5, LOW, HIGH};
        for (int setting : bad) {
            // Every range has 20 or 2 or 0 in it.
            Refusal.of("setting " + setting, TENS, x -> x.setSetting(setting, 20), BAD_VALUE);
            Refusal.of("setting " + setting, TENS, x -> x.setSetting(setting, 2), BAD_VALUE);
            Refusal.of("setting " + setting, TENS, x -> x.setSetting(setting, 0), BAD_VALUE);
        }
    }

    private static void setSettingRanges() {
        Check.section("promise 52: BAD_VALUE if value is out of its range");
        int[] least = {20, 0, 1, 0, 0};
        int[] most = {100, 50, 10, 20, 2};
        int[] initial = {25, 10, 5, 3, 0};
        PatronageBooks x = new PatronageBooks();
        for (int s = 0; s < 5; s++) {
            int setting = s;
            int[] bad = {least[s] - 1, most[s] + 1, LOW, HIGH};
            for (int value : bad) {
                Refusal.of("setting " + s + " to " + value, TENS, y -> y.setSetting(setting, value), BAD_VALUE);
            }
            Check.same("the least of " + s, x.setSetting(s, least[s]), initial[s]);
            Check.same("the least of " + s, x.getSetting(s), least[s]);
            Check.same("the most of " + s, x.setSetting(s, most[s]), least[s]);
            Check.same("the most of " + s, x.getSetting(s), most[s]);
        }
    }

    private static void setSettingAgain() {
        Check.section("promise 52: setting the value that it already has is also a change");
        PatronageBooks x = new PatronageBooks();
        int[] initial = {25, 10, 5, 3, 0};
        for (int s = 0; s < 5; s++) {
            Check.same("setting " + s, x.setSetting(s, initial[s]), initial[s]);
            Check.same("a change", x.undoCount(), s + 1);
        }
    }

    private static void undoNone() {
        Check.section("promise 53: NOT_FOUND if there is none to undo");
        PatronageBooks x = Texts.books(TENS);
        State before = State.of(x);
        Check.same("none", x.undo(), NOT_FOUND);
        State.same("nothing changes", State.of(x), before);
        x.trade(0, 0, 1);
        Check.same("one", x.undo(), 0);
        Texts.feed(x, "close 0 0;");
        Check.same("none again", x.undo(), NOT_FOUND);
        State.same("nothing changes", State.of(x), before);
        Check.same("undoCount", x.undoCount(), 0);
        Check.same("the buffer", x.load(20), PatronageBooks.SYNTAX_ERROR);
        Check.same("no year is closed", x.year(), 2);
        Check.same("of a new object", new PatronageBooks().undo(), NOT_FOUND);
    }

    private static void undoAnswers() {
        Check.section("promise 53: the latest change that is kept; the number of changes that can still be undone");
        PatronageBooks x = Texts.books(TENS);
        State[] states = new State[3];
        states[0] = State.of(x);
        x.leave(1);
        states[1] = State.of(x);
        x.close(-5, 7, 0, 0);
        states[2] = State.of(x);
        x.redeem(3);
        for (int n = 2; n >= 0; n--) {
            Check.same("undo", x.undo(), n);
            State.same("as before the change", State.of(x), states[n]);
        }
        Check.same("undo", x.undo(), NOT_FOUND);
        for (int n = 0; n < 15; n++) {
            x.setSetting(PatronageBooks.KEEP, n);
        }
        Check.same("ten are kept", x.undo(), 9);
        Check.same("the latest first", x.getSetting(PatronageBooks.KEEP), 13);
    }

    private static void undoBehindRefusals() {
        Check.section("CHANGES: a call that returns an error code or throws an exception changes nothing");
        PatronageBooks x = Texts.books(TENS);
        for (int n = 1; n <= 10; n++) {
            x.trade(0, 0, n);
        }
        // Each of these would push the oldest change out if it were kept.
        x.trade(3, 0, 1);
        x.trade(0, 0, 0);
        x.close(0, 0, 1, 0);
        x.redeem(-1);
        x.redeem(0);
        x.leave(0);
        x.leave(9);
        x.setConsent(-1, true);
        x.setSetting(5, 5);
        x.setSetting(0, 0);
        Refusal.answer(x, y -> y.equityOf(3));
        Refusal.answer(x, y -> y.rateOf(2));
        Check.same("undoCount", x.undoCount(), 10);
        int sum = 55;
        for (int n = 10; n >= 1; n--) {
            Check.same("patronage", x.patronage(0, 0), sum);
            Check.same("undo", x.undo(), n - 1);
            sum -= n;
        }
        Check.same("patronage", x.patronage(0, 0), 0);
    }

    private static void lastCall() {
        Check.section("What it is: an object is used for at most 512 calls");
        PatronageBooks x = new PatronageBooks();
        int value = 25;
        for (int n = 1; n <= 511; n++) {
            Check.same("call " + n, x.setSetting(PatronageBooks.CASH, 20 + n % 81), value);
            value = 20 + n % 81;
        }
        Check.same("call 512", x.undo(), 9);
    }
}
