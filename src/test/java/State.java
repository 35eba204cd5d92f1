/** What an object answers to all questions but undoCount, as one text, so that two moments can be compared. */
final class State {
    private final PatronageBooks x;
    private final StringBuilder text = new StringBuilder();
    private int answers = 0;

    private State(PatronageBooks x) {
        this.x = x;
        int members = x.memberCount();
        int departments = x.departmentCount();
        int years = x.year();
        add("counts", members, departments, years, x.errorPosition());
        ofAll(departments > 0 ? 1000 : 0);
        for (int y = 0; y < years; y++) {
            add(" year", x.budgetThrough(y), x.equityOfYear(y));
        }
        for (int d = 0; d < departments; d++) {
            add(" department", x.totalPatronage(d), x.rateOf(d), x.ratePoints(d));
        }
        for (int m = 0; m < members; m++) {
            ofMember(m, departments, years);
        }
    }

    static State of(PatronageBooks x) {
        return new State(x);
    }

    /** How many calls were made for it: an object is good for 512. */
    int calls() {
        return answers;
    }

    @Override
    public String toString() {
        return text.toString();
    }

    static void same(String what, State got, State want) {
        Check.note(what, got.toString().equals(want.toString()), got.toString(), want.toString());
    }

    private void add(String what, Object... values) {
        text.append(what);
        for (Object value : values) {
            text.append(' ').append(value);
            answers++;
        }
    }

    private void ofAll(int result) {
        for (int s = 0; s < 5; s++) {
            add(" setting", x.getSetting(s));
        }
        add(" sums", x.totalEquity(), x.reserve(), x.balance(), x.redeemable(), x.nextInLine(), x.richest());
        add(" states", x.membersIn(PatronageBooks.ACTIVE), x.membersIn(PatronageBooks.LEAVING),
                x.membersIn(PatronageBooks.GONE));
        add(" would", x.topMember(result, 0, 0, 0), x.wouldReserve(result, 0, 0, 0), x.cashNeeded(result, 0, 0, 0),
                x.redemptionsNeeded(7));
    }

    private void ofMember(int m, int departments, int years) {
        add(" member", x.consents(m), x.stateOf(m), x.equityOf(m), x.equityIn(m, PatronageBooks.QUALIFIED),
                x.equityIn(m, PatronageBooks.NONQUALIFIED));
        add(" paid", x.paidTo(m, 0), x.paidTo(m, 1), x.paidTo(m, 2), x.lastAllocation(m), x.lastRecapture(m));
        add(" has", x.meanAge(m), x.oldestYear(m), x.isUniform(m), x.partOf(m), x.installmentsLeft(m), x.installment(m, 0));
        add(" would", x.wouldRedeem(m, 7));
        for (int d = 0; d < departments; d++) {
            add(" patronage", x.patronage(m, d));
        }
        for (int y = 0; y < years; y++) {
            add(" certificate", x.certificate(m, y), x.kindOf(m, y), x.yearsUntil(m, y));
        }
    }
}
