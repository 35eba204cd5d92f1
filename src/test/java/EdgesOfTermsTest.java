import java.util.ArrayList;
import java.util.List;

/** The boundary cases that the section "Terms" names, from MEMBERS to CHANGES, each sentence by itself. */
public final class EdgesOfTermsTest {
    // Certificates of 10 for two members and two years.
    private static final String TENS = "member a;member b;section s;set reserve 0;set keep 0;"
            + "trade a s 1;trade b s 1;close 20;trade a s 1;trade b s 1;close 20;";

    // Of year 0: 10, 20 and 30; of year 1: 40, 10 and 25; 135 in all.
    private static final String SIX = "member a;member b;member c;section s;set reserve 0;set keep 0;"
            + "trade a s 10;trade b s 20;trade c s 30;close 60;trade a s 40;trade b s 10;trade c s 25;close 75;";

    // Both members have 10 of year 0 and 20 of year 1.
    private static final String TEN_TWENTY = "member a;member b;section s;set reserve 0;"
            + "trade a s 1;trade b s 1;close 20;trade a s 1;trade b s 1;close 40;";

    // Nothing of it is as it is at first: a gain and a loss in the latest year, a reserve, cash, both kinds, patronage.
    private static final String MUCH = "member a consent;member b;section s;section t;set keep 0;set years 3;"
            + "trade a s 5;trade b s 5;close 101 -7;trade b t 1;trade a s 1;close 10 -20;trade a t 3;";

    public static void main(String[] args) {
        indices();
        atFirst();
        certificateOrNone();
        sharingRoundedDown();
        sharingUnitsLeft();
        sharingTies();
        sharingTheGreatest();
        sharingAgain();
        surplus();
        surplusOfNobody();
        losses();
        lossesOfNobody();
        cash();
        cashOfAll();
        noConsent();
        departmentsTogether();
        recaptured();
        installmentsAtClosing();
        afterClosing();
        redemptionOfActive();
        redemptionOfWhatIsLeft();
        redemptionByAge();
        redemptionOfTheGreatestAge();
        budgetOfAll();
        policyZero();
        policyZeroGap();
        policyOne();
        policyOneTies();
        policyTwo();
        policyTwoTies();
        policyTwoLeft();
        exitAtThatMoment();
        exitWithoutEquity();
        exitRoundedUp();
        exitEarliestFirst();
        exitLast();
        kindsOfChanges();
        tenChanges();
        ringOfChanges();
        Check.end();
    }

    private static void indices() {
        Check.section("MEMBERS: at most 8 members and 4 departments, indexed from 0 in their order");
        PatronageBooks x = Texts.books("section s;member h;member a;section p;member g;member b;section r;"
                + "member f;member c;section q;member e;member d;");
        String[] members = {"h", "a", "g", "b", "f", "c", "e", "d"};
        String[] departments = {"s", "p", "r", "q"};
        for (int m = 0; m < 8; m++) {
            Check.same(members[m], x.memberNamed(Texts.name(members[m])), m);
        }
        for (int d = 0; d < 4; d++) {
            Check.same(departments[d], x.departmentNamed(Texts.name(departments[d])), d);
        }
        Check.same("memberCount", x.memberCount(), 8);
        Check.same("departmentCount", x.departmentCount(), 4);
        Check.same("the last of both", x.trade(7, 3, 5), 5);
        Check.same("the first of both", x.trade(0, 0, 6), 6);
        Check.same("the last of both", x.patronage(7, 3), 5);
    }

    private static void atFirst() {
        Check.section("MEMBERS: ACTIVE at first, the present year and the reserve 0 at first");
        PatronageBooks x = Texts.books("member a;member b consent;");
        Check.same("a", x.stateOf(0), PatronageBooks.ACTIVE);
        Check.same("b", x.stateOf(1), PatronageBooks.ACTIVE);
        Check.same("a", x.consents(0), false);
        Check.same("b", x.consents(1), true);
        Check.same("year", x.year(), 0);
        Check.same("reserve", x.reserve(), 0);
        Check.same("the first year is 0", x.close(0, 0, 0, 0), 0);
        Check.same("then 1", x.year(), 1);
    }

    private static void certificateOrNone() {
        Check.section("MEMBERS: for each year that was closed, a member has a certificate or none");
        PatronageBooks x = Texts.books("member a;member b;section s;trade a s 1;close 1;trade b s 1;close 1;close 0;");
        int[] left = {1, 0, 0, 0, 1, 0};
        for (int i = 0; i < 6; i++) {
            Check.same("certificate " + i, x.certificate(i / 3, i % 3), left[i]);
            int kind = left[i] > 0 ? PatronageBooks.NONQUALIFIED : PatronageBooks.NOT_FOUND;
            Check.same("kind " + i, x.kindOf(i / 3, i % 3), kind);
        }
    }

    /** An object without a reserve and with these weights in one department. */
    private static PatronageBooks weighted(int... weights) {
        StringBuilder text = new StringBuilder("section s;set reserve 0;");
        for (int m = 0; m < weights.length; m++) {
            text.append("member ").append((char) ('a' + m)).append(';');
        }
        PatronageBooks x = Texts.books(text.toString());
        for (int m = 0; m < weights.length; m++) {
            for (int open = weights[m]; open > 0; open -= 100000) {
                x.trade(m, 0, Math.min(open, 100000));
            }
        }
        return x;
    }

    private static void shared(PatronageBooks x, int amount, int... due) {
        for (int m = 0; m < due.length; m++) {
            Check.same(amount + " to " + m, x.wouldGet(m, amount, 0, 0, 0), due[m]);
            Check.same(-amount + " to " + m, x.wouldGet(m, -amount, 0, 0, 0), -due[m]);
        }
    }

    private static void sharingRoundedDown() {
        Check.section("SHARING: the amount times the weight divided by the sum of the weights, rounded down");
        PatronageBooks x = weighted(1, 2);
        shared(x, 3, 1, 2);
        shared(x, 300, 100, 200);
        shared(x, 1, 0, 1);
        shared(x, 2, 1, 1);
        shared(x, 4, 1, 3);
        shared(x, 5, 2, 3);
        shared(x, 0, 0, 0);
        shared(weighted(1), 7, 7);
        shared(weighted(0, 1, 0), 7, 0, 7, 0);
    }

    private static void sharingUnitsLeft() {
        Check.section("SHARING: units left, one each, to the greatest remainders");
        PatronageBooks x = weighted(1, 3, 0, 3);
        // 1.43, 4.29, 0, 4.29: one unit is left.
        shared(x, 10, 2, 4, 0, 4);
        // 1.29, 3.86, 0, 3.86: two are.
        shared(x, 9, 1, 4, 0, 4);
        // 1, 3, 0, 3: none is.
        shared(x, 7, 1, 3, 0, 3);
        // 0.14, 0.43, 0, 0.43: the first of the two greatest.
        shared(x, 1, 0, 1, 0, 0);
        PatronageBooks y = weighted(5, 4, 3, 2, 1);
        // 14 of 15: 4.67, 3.73, 2.8, 1.87, 0.93: four units are left, the first share gets none.
        shared(y, 14, 4, 4, 3, 2, 1);
        // 1 of 15.
        shared(y, 1, 1, 0, 0, 0, 0);
    }

    private static void sharingTies() {
        Check.section("SHARING: ties being broken by the order of the shares");
        PatronageBooks x = weighted(6, 6, 6, 6, 6, 6, 6, 6);
        shared(x, 1, 1, 0, 0, 0, 0, 0, 0, 0);
        shared(x, 7, 1, 1, 1, 1, 1, 1, 1, 0);
        shared(x, 8, 1, 1, 1, 1, 1, 1, 1, 1);
        shared(x, 9, 2, 1, 1, 1, 1, 1, 1, 1);
        shared(x, 15, 2, 2, 2, 2, 2, 2, 2, 1);
    }

    private static void sharingTheGreatest() {
        Check.section("SHARING: the greatest amount and the greatest weights");
        int most = 1000000;
        PatronageBooks x = weighted(most, most, most, most, most, most, most, most - 1);
        Check.same("the sum", x.totalPatronage(0), 7999999);
        // 125000.02 seven times and 124999.89: the unit that is left goes to the last one.
        shared(x, most, 125000, 125000, 125000, 125000, 125000, 125000, 125000, 125000);
        // 124999.89 seven times and 124999.77.
        shared(x, most - 1, 125000, 125000, 125000, 125000, 125000, 125000, 125000, 124999);
        PatronageBooks y = weighted(most, 1);
        // 999999.000001 and 0.999999.
        shared(y, most, 999999, 1);
    }

    private static void sharingAgain() {
        Check.section("SHARING: a sharing among few behind one among many");
        PatronageBooks x = Texts.books(TENS);
        x.setSetting(PatronageBooks.POLICY, 1);
        x.trade(0, 0, 1);
        x.trade(1, 0, 1);
        int[] amounts = {1, 3, 999999};
        for (int amount : amounts) {
            Check.same("four shares", x.wouldRedeem(0, 5), 3);
            Check.same("two shares, " + amount, x.wouldGet(0, amount, 0, 0, 0), amount / 2 + 1);
            Check.same("two shares, " + amount, x.wouldGet(1, amount, 0, 0, 0), amount / 2);
        }
        Check.same("four shares", x.redeem(5), 5);
        x.close(1, 0, 0, 0);
        Check.same("two shares", x.lastAllocation(0) * 10 + x.lastAllocation(1), 10);
    }

    private static void surplus(int reserve, int result, int kept) {
        PatronageBooks x = Texts.books("member a;section s;set reserve " + reserve + ";trade a s 1;");
        String what = "RESERVE " + reserve + ", " + result;
        Check.same(what + ", wouldReserve", x.wouldReserve(result, 0, 0, 0), kept);
        Check.same(what + ", wouldGet", x.wouldGet(0, result, 0, 0, 0), result - kept);
        x.close(result, 0, 0, 0);
        Check.same(what + ", reserve", x.reserve(), kept);
        Check.same(what + ", allocated", x.lastAllocation(0), result - kept);
        Check.same(what + ", certificate", x.certificate(0, 0), result - kept);
    }

    private static void surplus() {
        Check.section("CLOSING (1): greater than 0, times RESERVE divided by 100, rounded down");
        surplus(10, 0, 0);
        surplus(10, 1, 0);
        surplus(10, 9, 0);
        surplus(10, 10, 1);
        surplus(10, 19, 1);
        surplus(10, 20, 2);
        surplus(10, 1000000, 100000);
        surplus(0, 1, 0);
        surplus(0, 1000000, 0);
        surplus(1, 99, 0);
        surplus(1, 100, 1);
        surplus(50, 1, 0);
        surplus(50, 2, 1);
        surplus(50, 3, 1);
        surplus(50, 999999, 499999);
        surplus(50, 1000000, 500000);
    }

    private static void surplusOfNobody() {
        Check.section("CLOSING (1): nobody has patronage in the department: the rest to the reserve, too");
        PatronageBooks x = Texts.books("member a;section s;section t;trade a t 1;");
        Check.same("nobody in s", x.wouldReserve(9, 0, 0, 0), 9);
        Check.same("a in t", x.wouldReserve(0, 9, 0, 0), 0);
        Check.same("both", x.wouldReserve(10, 10, 0, 0), 11);
        Check.same("a gets nothing of s", x.wouldGet(0, 9, 0, 0, 0), 0);
        x.trade(0, 0, 1);
        Check.same("a patronage of 1 is enough", x.wouldReserve(9, 0, 0, 0), 0);
        Check.same("a patronage of 1 is enough", x.wouldGet(0, 9, 0, 0, 0), 9);
        x.close(9, 0, 0, 0);
        x.close(9, 0, 0, 0);
        Check.same("that of the year before is none", x.reserve(), 9);
        Check.same("nothing is allocated", x.lastAllocation(0), 0);
        Check.same("no rate", x.ratePoints(0), 0);
        PatronageBooks y = Texts.books("section s;close 1;");
        Check.same("no member at all", y.reserve(), 1);
    }

    private static void losses() {
        Check.section("CLOSING (2): less than 0: its amount is shared, each gets the negative");
        PatronageBooks x = Texts.books(TEN_TWENTY);
        x.setSetting(PatronageBooks.RESERVE, 50);
        x.trade(0, 0, 1);
        x.trade(1, 0, 1);
        Check.same("-1 to a", x.wouldGet(0, -1, 0, 0, 0), -1);
        Check.same("-1 to b", x.wouldGet(1, -1, 0, 0, 0), 0);
        Check.same("0", x.wouldGet(0, 0, 0, 0, 0), 0);
        Check.same("-3 to a", x.wouldGet(0, -3, 0, 0, 0), -2);
        Check.same("-3 to b", x.wouldGet(1, -3, 0, 0, 0), -1);
        Check.same("the greatest loss", x.wouldGet(1, -1000000, 0, 0, 0), -500000);
        Check.same("RESERVE is for surpluses", x.wouldReserve(-20, 0, 0, 0), 0);
        x.close(-3, 0, 0, 0);
        Check.same("a", x.certificate(0, 1), 18);
        Check.same("b", x.certificate(1, 1), 19);
        Check.same("the rate", x.rateOf(0), (double) (-3f / 2f));
    }

    private static void lossesOfNobody() {
        Check.section("CLOSING (2): nobody has patronage: the amount is taken from the reserve");
        PatronageBooks x = Texts.books(TEN_TWENTY);
        x.close(-1, 0, 0, 0);
        Check.same("reserve", x.reserve(), -1);
        Check.same("no equity is touched", x.totalEquity(), 60);
        Check.same("nothing is allocated", x.lastAllocation(0) + x.lastRecapture(0), 0);
        Check.same("no rate", x.rateOf(0), 0.0);
        x.close(-1000000, 0, 0, 0);
        Check.same("reserve", x.reserve(), -1000001);
        x.trade(0, 0, 1);
        x.close(-30, 0, 0, 0);
        Check.same("a patronage of 1 is enough", x.reserve(), -1000001);
        Check.same("a patronage of 1 is enough", x.equityOf(0), 0);
    }

    private static void paid(int cash, int n, int due) {
        PatronageBooks x = Texts.books("member a consent;section s;set reserve 0;set cash " + cash + ";trade a s 1;");
        String what = "CASH " + cash + ", " + n;
        Check.same(what + ", cashNeeded", x.cashNeeded(n, 0, 0, 0), due);
        x.close(n, 0, 0, 0);
        Check.same(what + ", paid", x.paidTo(0, 0), due);
        Check.same(what + ", certificate", x.certificate(0, 0), n - due);
        int kind = n > due ? PatronageBooks.QUALIFIED : PatronageBooks.NOT_FOUND;
        Check.same(what + ", kind", x.kindOf(0, 0), kind);
        Check.same(what + ", balance", x.balance(), n - due);
    }

    private static void cash() {
        Check.section("CLOSING (3): n times CASH divided by 100, rounded down, in cash");
        paid(20, 1, 0);
        paid(20, 4, 0);
        paid(20, 5, 1);
        paid(20, 9, 1);
        paid(20, 10, 2);
        paid(20, 1000000, 200000);
        paid(25, 3, 0);
        paid(25, 4, 1);
        paid(99, 1, 0);
        paid(99, 2, 1);
        paid(99, 100, 99);
        paid(99, 1000000, 990000);
        PatronageBooks x = Texts.books("member a consent;section p;section q;section r;section s;set reserve 0;"
                + "set cash 99;trade a p 1;trade a q 1;trade a r 1;trade a s 1;close 1000000 1000000 1000000 1000000;");
        Check.same("the greatest n", x.lastAllocation(0), 4000000);
        Check.same("the greatest n", x.paidTo(0, 0), 3960000);
        Check.same("the greatest n", x.certificate(0, 0), 40000);
    }

    private static void cashOfAll() {
        Check.section("CLOSING (3): what is left of n, if it is greater than 0, becomes a certificate");
        paid(100, 1, 1);
        paid(100, 1000000, 1000000);
        PatronageBooks x = Texts.books("member a consent;section s;set cash 100;trade a s 1;close 100;");
        Check.same("no certificate", x.oldestYear(0), PatronageBooks.NOT_FOUND);
        Check.same("no certificate", x.yearsUntil(0, 0), PatronageBooks.NOT_FOUND);
        Check.same("no certificate", x.meanAge(0), Double.NaN);
        Check.same("gone at once", x.leave(0), 0);
    }

    private static void noConsent() {
        Check.section("CLOSING (3): otherwise n becomes a NONQUALIFIED certificate");
        PatronageBooks x = Texts.books("member a;section s;set reserve 0;set cash 100;trade a s 1;close 1;"
                + "trade a s 1;close 1000000;");
        Check.same("1", x.certificate(0, 0), 1);
        Check.same("1000000", x.certificate(0, 1), 1000000);
        Check.same("kind", x.kindOf(0, 0), PatronageBooks.NONQUALIFIED);
        Check.same("no cash", x.paidTo(0, 0), 0);
    }

    private static PatronageBooks closedWith(int first, int second) {
        PatronageBooks x = Texts.books("member a;section s;section t;set reserve 0;trade a s 1;close 10 0;"
                + "trade a s 1;trade a t 1;");
        x.close(first, second, 0, 0);
        Check.same(first + " and " + second, x.lastAllocation(0), first + second);
        return x;
    }

    private static void departmentsTogether() {
        Check.section("CLOSING (3): n is the sum for all departments, greater or less than 0 or neither");
        PatronageBooks x = closedWith(7, -7);
        Check.same("0: no certificate", x.kindOf(0, 1), PatronageBooks.NOT_FOUND);
        Check.same("0: nothing is recaptured", x.lastRecapture(0), 0);
        Check.same("0: the earlier one stays", x.certificate(0, 0), 10);
        Check.same("0: the reserve stays", x.reserve(), 0);
        PatronageBooks y = closedWith(8, -7);
        Check.same("1: a certificate", y.certificate(0, 1), 1);
        Check.same("1: nothing is recaptured", y.lastRecapture(0), 0);
        PatronageBooks z = closedWith(7, -8);
        Check.same("-1: no certificate", z.kindOf(0, 1), PatronageBooks.NOT_FOUND);
        Check.same("-1: recaptured", z.lastRecapture(0), 1);
        Check.same("-1: recaptured", z.certificate(0, 0), 9);
    }

    private static void recaptured(int loss, int left0, int left1, int reserve) {
        PatronageBooks x = Texts.books(TEN_TWENTY);
        x.trade(0, 0, 1);
        x.close(-loss, 0, 0, 0);
        String what = "a loss of " + loss;
        Check.same(what + ", year 0", x.certificate(0, 0), left0);
        Check.same(what + ", year 1", x.certificate(0, 1), left1);
        Check.same(what + ", reserve", x.reserve(), reserve);
        Check.same(what + ", lastAllocation", x.lastAllocation(0), -loss);
        Check.same(what + ", lastRecapture", x.lastRecapture(0), 30 - left0 - left1);
        Check.same(what + ", balance", x.balance(), 30 + left0 + left1);
        Check.same(what + ", the other member", x.equityOf(1), 30);
        Check.same(what + ", no certificate", x.kindOf(0, 2), PatronageBooks.NOT_FOUND);
    }

    private static void recaptured() {
        Check.section("CLOSING (3): recaptured, the latest year first; what cannot be is taken from the reserve");
        recaptured(1, 10, 19, 0);
        recaptured(19, 10, 1, 0);
        recaptured(20, 10, 0, 0);
        recaptured(21, 9, 0, 0);
        recaptured(29, 1, 0, 0);
        recaptured(30, 0, 0, 0);
        recaptured(31, 0, 0, -1);
        recaptured(1000000, 0, 0, -999970);
    }

    private static void installmentsAtClosing() {
        Check.section("CLOSING (4): an installment for each member who is LEAVING");
        PatronageBooks x = Texts.books("member a;member b;member c;section s;set reserve 0;set years 1;"
                + "trade a s 1;trade b s 1;close 20;");
        x.leave(0);
        x.leave(2);
        Check.same("only the leaving one", x.cashNeeded(0, 0, 0, 0), 10);
        x.close(0, 0, 0, 0);
        Check.same("leaving", x.paidTo(0, 2), 10);
        Check.same("active", x.paidTo(1, 2), 0);
        Check.same("gone", x.paidTo(2, 2), 0);
        Check.same("gone now, too", x.stateOf(0), PatronageBooks.GONE);
        Check.same("none any more", x.cashNeeded(0, 0, 0, 0), 0);
        x.close(0, 0, 0, 0);
        Check.same("none any more", x.paidTo(0, 2), 10);
    }

    private static void afterClosing() {
        Check.section("CLOSING: then all patronage becomes 0, and the next year is the present one");
        PatronageBooks x = Texts.books("member a;member b;member c;member d;member e;member f;member g;member h;"
                + "section p;section q;section r;section s;");
        for (int i = 0; i < 32; i++) {
            x.trade(i / 4, i % 4, i + 1);
        }
        Check.same("close", x.close(0, 0, 0, 0), 0);
        for (int i = 0; i < 32; i++) {
            Check.same("patronage " + i, x.patronage(i / 4, i % 4), 0);
        }
        for (int d = 0; d < 4; d++) {
            Check.same("totalPatronage " + d, x.totalPatronage(d), 0);
        }
        Check.same("year", x.year(), 1);
        Check.same("a member may leave then", x.leave(7), 0);
    }

    private static void redemptionOfActive() {
        Check.section("REDEMPTION: certificates of active members");
        PatronageBooks x = Texts.books(TENS);
        x.setSetting(PatronageBooks.YEARS, 2);
        x.leave(0);
        for (int policy = 0; policy <= 2; policy++) {
            x.setSetting(PatronageBooks.POLICY, policy);
            Check.same("of the leaving one", x.wouldRedeem(0, 40), 0);
            Check.same("of the other one", x.wouldRedeem(1, 40), 20);
            Check.same("of the other one", x.wouldRedeem(1, 19), 19);
        }
        Check.same("redeemable", x.redeemable(), 20);
        Check.same("redeem", x.redeem(40), 20);
        Check.same("the leaving one keeps all", x.equityOf(0), 20);
    }

    private static void redemptionOfWhatIsLeft() {
        Check.section("REDEMPTION: of which something is left");
        PatronageBooks x = Texts.books(TENS);
        x.redeem(39);
        Check.same("the last unit", x.redeemable(), 1);
        Check.same("of b", x.nextInLine(), 1);
        Check.same("is redeemed, too", x.redeem(40), 1);
        Check.same("nothing is left", x.redeem(40), 0);
        Check.same("nothing is left", x.nextInLine(), PatronageBooks.NOT_FOUND);
        Check.same("nothing is left", x.redeemable(), 0);
    }

    private static void redemptionByAge() {
        Check.section("REDEMPTION: whose age is at least KEEP");
        int[] due = {40, 40, 20, 0};
        for (int keep = 0; keep <= 3; keep++) {
            PatronageBooks x = Texts.books(TENS);
            x.setSetting(PatronageBooks.KEEP, keep);
            Check.same("redeemable, KEEP " + keep, x.redeemable(), due[keep]);
            Check.same("redeem, KEEP " + keep, x.redeem(10000000), due[keep]);
            Check.same("left of year 0, KEEP " + keep, x.equityOfYear(0), due[keep] > 0 ? 0 : 20);
            Check.same("left of year 1, KEEP " + keep, x.equityOfYear(1), due[keep] > 20 ? 0 : 20);
        }
    }

    private static void redemptionOfTheGreatestAge() {
        Check.section("REDEMPTION: whose age is at least KEEP, with KEEP 20");
        PatronageBooks x = Texts.books("member a;section s;set reserve 0;set keep 20;trade a s 1;close 10;trade a s 1;"
                + "close 5;" + "close 0;".repeat(17));
        Check.same("year", x.year(), 19);
        Check.same("age 19", x.redeemable(), 0);
        Check.same("age 19", x.redeem(100), 0);
        Check.same("age 19", x.yearsUntil(0, 0), 1);
        x.close(0, 0, 0, 0);
        Check.same("age 20", x.redeemable(), 10);
        Check.same("age 20", x.redeem(100), 10);
        x.close(0, 0, 0, 0);
        Check.same("the next one", x.redeem(100), 5);
    }

    private static void budgetOfAll() {
        Check.section("REDEMPTION: if the budget is at least their sum, all are redeemed, otherwise it is paid whole");
        for (int policy = 0; policy <= 2; policy++) {
            PatronageBooks x = Texts.books(SIX);
            x.setSetting(PatronageBooks.POLICY, policy);
            int[] budgets = {0, 1, 134, 135, 136, 10000000};
            for (int budget : budgets) {
                String what = "policy " + policy + ", budget " + budget;
                int sum = x.wouldRedeem(0, budget) + x.wouldRedeem(1, budget) + x.wouldRedeem(2, budget);
                Check.same(what, sum, Math.min(budget, 135));
                Check.same(what, x.redeem(budget), Math.min(budget, 135));
                Check.same(what, x.totalEquity(), 135 - Math.min(budget, 135));
                if (budget > 0) {
                    x.undo();
                }
            }
        }
    }

    /** What is left of the certificates of an object, by year, then member, after a redemption that is undone again. */
    private static void left(PatronageBooks x, int budget, int... due) {
        x.redeem(budget);
        int members = x.memberCount();
        for (int i = 0; i < due.length; i++) {
            Check.same(budget + ", member " + i % members + " year " + i / members,
                    x.certificate(i % members, i / members), due[i]);
        }
        x.undo();
    }

    private static void policyZero() {
        Check.section("REDEMPTION, POLICY 0: as long as the budget is at least the sum of the oldest year");
        PatronageBooks x = Texts.books(SIX);
        left(x, 1, 10, 20, 29, 40, 10, 25);
        // 59 of 60: 9.83, 19.67, 29.5.
        left(x, 59, 0, 0, 1, 40, 10, 25);
        left(x, 60, 0, 0, 0, 40, 10, 25);
        left(x, 61, 0, 0, 0, 39, 10, 25);
        // 74 of 75: 39.47, 9.87, 24.67.
        left(x, 134, 0, 0, 0, 1, 0, 0);
        left(x, 135, 0, 0, 0, 0, 0, 0);
        left(x, 136, 0, 0, 0, 0, 0, 0);
        PatronageBooks y = Texts.books(TENS);
        left(y, 1, 9, 10, 10, 10);
        left(y, 19, 0, 1, 10, 10);
        left(y, 21, 0, 0, 9, 10);
    }

    private static void policyZeroGap() {
        Check.section("REDEMPTION, POLICY 0: the oldest year and the next are those that have certificates");
        PatronageBooks x = Texts.books("member a;member b;section s;set reserve 0;set keep 0;close 0;"
                + "trade a s 1;close 10;close 0;trade b s 1;close 10;trade a s 1;close 10;");
        left(x, 9, 0, 0, 1, 0, 0, 0, 0, 10, 10, 0);
        left(x, 10, 0, 0, 0, 0, 0, 0, 0, 10, 10, 0);
        left(x, 11, 0, 0, 0, 0, 0, 0, 0, 9, 10, 0);
        left(x, 20, 0, 0, 0, 0, 0, 0, 0, 0, 10, 0);
        left(x, 21, 0, 0, 0, 0, 0, 0, 0, 0, 9, 0);
        x.setSetting(PatronageBooks.KEEP, 2);
        // That of year 4 is too young now.
        left(x, 21, 0, 0, 0, 0, 0, 0, 0, 0, 10, 0);
        x.leave(0);
        left(x, 9, 0, 0, 10, 0, 0, 0, 0, 1, 10, 0);
    }

    private static void policyOne() {
        Check.section("REDEMPTION, POLICY 1: the budget is shared among all certificates");
        PatronageBooks x = Texts.books(SIX);
        x.setSetting(PatronageBooks.POLICY, 1);
        left(x, 1, 10, 20, 30, 39, 10, 25);
        // 70 of 135: 5.19, 10.37, 15.56, 20.74, 5.19, 12.96: three units are left.
        left(x, 70, 5, 10, 14, 19, 5, 12);
        // One less than each, and the five smallest get the unit.
        left(x, 134, 0, 0, 0, 1, 0, 0);
        left(x, 135, 0, 0, 0, 0, 0, 0);
    }

    private static void policyOneTies() {
        Check.section("REDEMPTION, POLICY 1: in the order of their years and, for the same year, of the members");
        PatronageBooks x = Texts.books(TENS);
        x.setSetting(PatronageBooks.POLICY, 1);
        left(x, 1, 9, 10, 10, 10);
        left(x, 2, 9, 9, 10, 10);
        left(x, 3, 9, 9, 9, 10);
        left(x, 4, 9, 9, 9, 9);
        left(x, 39, 0, 0, 0, 1);
    }

    private static void policyTwo() {
        Check.section("REDEMPTION, POLICY 2: one after the other in ascending order, the last one only in part");
        PatronageBooks x = Texts.books(SIX);
        x.setSetting(PatronageBooks.POLICY, 2);
        left(x, 1, 9, 20, 30, 40, 10, 25);
        left(x, 9, 1, 20, 30, 40, 10, 25);
        left(x, 10, 0, 20, 30, 40, 10, 25);
        left(x, 11, 0, 20, 30, 40, 9, 25);
        left(x, 20, 0, 20, 30, 40, 0, 25);
        left(x, 40, 0, 0, 30, 40, 0, 25);
        left(x, 41, 0, 0, 30, 40, 0, 24);
        left(x, 66, 0, 0, 29, 40, 0, 0);
        left(x, 96, 0, 0, 0, 39, 0, 0);
        left(x, 134, 0, 0, 0, 1, 0, 0);
        left(x, 135, 0, 0, 0, 0, 0, 0);
    }

    private static void policyTwoTies() {
        Check.section("REDEMPTION, POLICY 2: ties being broken by earlier year, then by lower index");
        PatronageBooks x = Texts.books(TENS);
        x.setSetting(PatronageBooks.POLICY, 2);
        left(x, 5, 5, 10, 10, 10);
        left(x, 10, 0, 10, 10, 10);
        left(x, 15, 0, 5, 10, 10);
        left(x, 25, 0, 0, 5, 10);
        left(x, 35, 0, 0, 0, 5);
    }

    private static void policyTwoLeft() {
        Check.section("REDEMPTION, POLICY 2: in ascending order of what is left of them");
        PatronageBooks x = Texts.books(TENS);
        x.setSetting(PatronageBooks.POLICY, 2);
        x.trade(1, 0, 1);
        x.close(-1, 0, 0, 0);
        Check.same("recaptured", x.certificate(1, 1), 9);
        left(x, 9, 10, 10, 10, 0);
        left(x, 10, 9, 10, 10, 0);
    }

    private static void exitAtThatMoment() {
        Check.section("EXIT: YEARS installments to get, the setting at that moment");
        for (int years = 1; years <= 10; years += 9) {
            PatronageBooks x = Texts.books(TENS);
            x.setSetting(PatronageBooks.YEARS, years);
            Check.same("leave, YEARS " + years, x.leave(0), years);
            x.setSetting(PatronageBooks.YEARS, 4);
            Check.same("installmentsLeft", x.installmentsLeft(0), years);
            Check.same("another one", x.leave(1), 4);
            Check.same("installmentsLeft", x.installmentsLeft(0), years);
        }
    }

    private static void exitWithoutEquity() {
        Check.section("EXIT: a member with no equity is GONE at once and has none");
        PatronageBooks x = Texts.books("member a;member b;section s;set reserve 0;trade a s 1;close 1;");
        Check.same("an equity of 1", x.leave(0), 5);
        Check.same("an equity of 1", x.stateOf(0), PatronageBooks.LEAVING);
        Check.same("none", x.leave(1), 0);
        Check.same("none", x.stateOf(1), PatronageBooks.GONE);
        Check.same("none", x.installmentsLeft(1), 0);
        Check.same("none", x.installment(1, 0), PatronageBooks.NOT_FOUND);
        PatronageBooks y = Texts.books(TENS);
        y.redeem(39);
        Check.same("nothing left", y.leave(0), 0);
        Check.same("nothing left", y.stateOf(0), PatronageBooks.GONE);
        Check.same("one left", y.leave(1), 5);
    }

    private static void installments(int equity, int... due) {
        int years = due.length;
        PatronageBooks x = Texts.books("member a;section s;set reserve 0;set years " + years + ";trade a s 1;close " + equity + ";");
        Check.same("leave", x.leave(0), years);
        String what = equity + " in " + years;
        for (int k = 0; k < years; k++) {
            Check.same(what + ", foreseen " + k, x.installment(0, k), due[k]);
        }
        Check.same(what + ", no more", x.installment(0, years), PatronageBooks.NOT_FOUND);
        int sum = 0;
        for (int k = 0; k < years; k++) {
            Check.same(what + ", state", x.stateOf(0), PatronageBooks.LEAVING);
            Check.same(what + ", left", x.installmentsLeft(0), years - k);
            Check.same(what + ", needed", x.cashNeeded(0, 0, 0, 0), due[k]);
            x.close(0, 0, 0, 0);
            sum += due[k];
            Check.same(what + ", paid " + k, x.paidTo(0, 2), sum);
            Check.same(what + ", equity " + k, x.equityOf(0), equity - sum);
        }
        Check.same(what + ", all of it", sum, equity);
        Check.same(what + ", gone", x.stateOf(0), PatronageBooks.GONE);
        Check.same(what + ", gone", x.installmentsLeft(0), 0);
    }

    private static void exitRoundedUp() {
        Check.section("EXIT: the equity divided by the number of installments, rounded up");
        installments(10, 2, 2, 2, 2, 2);
        installments(11, 3, 2, 2, 2, 2);
        installments(9, 2, 2, 2, 2, 1);
        installments(6, 2, 1, 1, 1, 1);
        installments(10, 1, 1, 1, 1, 1, 1, 1, 1, 1, 1);
        installments(11, 2, 1, 1, 1, 1, 1, 1, 1, 1, 1);
        installments(19, 2, 2, 2, 2, 2, 2, 2, 2, 2, 1);
        installments(1, 1, 0, 0, 0, 0, 0, 0, 0, 0, 0);
        installments(1, 1);
        installments(1000000, 1000000);
        installments(1000000, 333334, 333333, 333333);
    }

    private static PatronageBooks leaving(int years) {
        PatronageBooks x = Texts.books(TEN_TWENTY);
        x.setSetting(PatronageBooks.YEARS, years);
        x.leave(0);
        x.close(0, 0, 0, 0);
        return x;
    }

    private static void exitEarliestFirst() {
        Check.section("EXIT: an installment reduces the certificates, the earliest year first");
        PatronageBooks x = leaving(4);
        Check.same("8: within year 0", x.certificate(0, 0), 2);
        Check.same("8: within year 0", x.certificate(0, 1), 20);
        x.close(0, 0, 0, 0);
        Check.same("16: into year 1", x.certificate(0, 0), 0);
        Check.same("16: into year 1", x.certificate(0, 1), 14);
        PatronageBooks y = leaving(3);
        Check.same("10: just year 0", y.certificate(0, 0), 0);
        Check.same("10: just year 0", y.certificate(0, 1), 20);
        PatronageBooks z = leaving(2);
        Check.same("15", z.certificate(0, 0), 0);
        Check.same("15", z.certificate(0, 1), 15);
        Check.same("the other member", z.equityOf(1), 30);
    }

    private static void exitLast() {
        Check.section("EXIT: with the last installment the member is GONE");
        PatronageBooks x = leaving(1);
        Check.same("the only one", x.stateOf(0), PatronageBooks.GONE);
        Check.same("the only one", x.paidTo(0, 2), 30);
        Check.same("nothing is left", x.equityOf(0), 0);
        PatronageBooks y = leaving(2);
        Check.same("the first of two", y.stateOf(0), PatronageBooks.LEAVING);
        Check.same("the first of two", y.installmentsLeft(0), 1);
        y.close(0, 0, 0, 0);
        Check.same("the last of two", y.stateOf(0), PatronageBooks.GONE);
        Check.same("the last of two", y.installmentsLeft(0), 0);
        Check.same("the other member", y.stateOf(1), PatronageBooks.ACTIVE);
    }

    private static void undone(String what, Refusal.Steps change) {
        PatronageBooks x = Texts.books(MUCH);
        State before = State.of(x);
        change.on(x);
        State after = State.of(x);
        Check.same(what + ": undoCount", x.undoCount(), 1);
        Check.same(what + ": undo", x.undo(), 0);
        State.same(what + ": everything is as before", State.of(x), before);
        Check.same(what + ": undo", x.undo(), PatronageBooks.NOT_FOUND);
        change.on(x);
        State.same(what + ": once more", State.of(x), after);
    }

    private static void kindsOfChanges() {
        Check.section("CHANGES: the six methods make changes, and everything is as before with undo");
        undone("trade", x -> x.trade(1, 0, 100000));
        undone("close", x -> x.close(1000000, 5, 0, 0));
        undone("close", x -> x.close(-1000000, -7, 0, 0));
        undone("redeem", x -> x.redeem(1));
        undone("redeem", x -> x.redeem(40));
        undone("leave", x -> x.leave(1));
        undone("setConsent", x -> x.setConsent(1, true));
        undone("setConsent", x -> x.setConsent(1, false));
        undone("setSetting", x -> x.setSetting(PatronageBooks.KEEP, 20));
        undone("setSetting", x -> x.setSetting(PatronageBooks.KEEP, 0));
    }

    private static void tenChanges() {
        Check.section("CHANGES: at most the 10 latest changes are kept");
        for (int changes = 9; changes <= 11; changes++) {
            PatronageBooks x = Texts.books(TENS);
            for (int n = 1; n <= changes; n++) {
                x.trade(0, 0, 1);
                Check.same("undoCount after " + n, x.undoCount(), Math.min(n, 10));
            }
            for (int n = Math.min(changes, 10) - 1; n >= 0; n--) {
                Check.same(changes + " changes, undo", x.undo(), n);
            }
            Check.same(changes + " changes, no more", x.undo(), PatronageBooks.NOT_FOUND);
            Check.same(changes + " changes, patronage", x.patronage(0, 0), changes == 11 ? 1 : 0);
        }
    }

    private static void ringOfChanges() {
        Check.section("CHANGES: the 10 latest changes, over and over");
        PatronageBooks x = Texts.books(TENS);
        List<Integer> kept = new ArrayList<>();
        int present = 0;
        for (int n = 1; n <= 120; n++) {
            // Thirteen changes, then four undone, so that every place is the first one some time.
            if (n % 17 < 13) {
                kept.add(present);
                present = x.trade(1, 0, n);
                if (kept.size() > 10) {
                    kept.remove(0);
                }
            } else {
                present = kept.remove(kept.size() - 1);
                Check.same("undo " + n, x.undo(), kept.size());
            }
            Check.same("patronage " + n, x.patronage(1, 0), present);
            Check.same("undoCount " + n, x.undoCount(), kept.size());
        }
    }
}
