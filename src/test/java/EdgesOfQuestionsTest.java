/** The boundary cases that the promises 1 and 5 to 46 name, each sentence by itself. */
public final class EdgesOfQuestionsTest {
    private static final int NOT_FOUND = PatronageBooks.NOT_FOUND;
    private static final int BAD_VALUE = PatronageBooks.BAD_VALUE;
    private static final int LOW = Integer.MIN_VALUE;
    private static final int HIGH = Integer.MAX_VALUE;

    private static final String EIGHT = "member a;member b;member c;member d;member e;member f;member g;member h;";
    private static final String FOUR = "section p;section q;section r;section s;";
    // Certificates of 10 for two members and two years.
    private static final String TENS = "member a;member b;section s;section t;set reserve 0;set keep 0;"
            + "trade a s 1;trade b s 1;close 20 0;trade a s 1;trade b s 1;close 20 0;";

    private interface ByIndex {
        Object of(PatronageBooks x, int index);
    }

    private interface ByResults {
        Object of(PatronageBooks x, int a, int b, int c, int d);
    }

    public static void main(String[] args) {
        newObject();
        memberCount();
        departmentCount();
        year();
        undoCount();
        memberNamed();
        departmentNamed();
        getSetting();
        consents();
        stateOf();
        patronage();
        totalPatronage();
        certificate();
        kindOf();
        equityOf();
        equityIn();
        totalEquity();
        reserve();
        paidTo();
        lastAllocation();
        lastRecapture();
        rateOf();
        ratePoints();
        meanAge();
        oldestYear();
        isUniform();
        wouldGet();
        topMember();
        redeemable();
        wouldRedeem();
        budgetThrough();
        installmentsLeft();
        installment();
        balance();
        nextInLine();
        yearsUntil();
        equityOfYear();
        wouldReserve();
        cashNeeded();
        richest();
        membersIn();
        partOf();
        redemptionsNeeded();
        redemptionsBehindTheLastYear();
        eightMembers();
        theGreatestBooks();
        Check.end();
    }

    /** Good for 0 to count - 1, refused for all others, and always refused where there is none. */
    private static void index(String all, String none, int count, ByIndex call) {
        PatronageBooks x = Texts.books(all);
        int[] good = {0, count - 1};
        for (int i : good) {
            Check.same("index " + i, Refusal.answer(x, y -> call.of(y, i)).startsWith("throws"), false);
        }
        int[] bad = {-1, count, count + 1, LOW, HIGH};
        for (int i : bad) {
            Check.same("index " + i, Refusal.answer(x, y -> call.of(y, i)), Refusal.THROWN);
            Check.same("index " + i + " of none", Refusal.answer(Texts.books(none), y -> call.of(y, i)), Refusal.THROWN);
        }
        Check.same("index 0 of none", Refusal.answer(Texts.books(none), y -> call.of(y, 0)), Refusal.THROWN);
        Check.same("of a new object", Refusal.answer(new PatronageBooks(), y -> call.of(y, 0)), Refusal.THROWN);
    }

    private static void memberIndex(ByIndex call) {
        index("member a;section s;close 0;", "section s;close 0;", 1, call);
        index(EIGHT + "section s;close 0;", "section s;close 0;", 8, call);
        Refusal.of("member -1", TENS, x -> call.of(x, -1), Refusal.THROWN);
        Refusal.of("member 2", TENS, x -> call.of(x, 2), Refusal.THROWN);
    }

    private static void departmentIndex(ByIndex call) {
        index("member a;section s;close 0;", "member a;close;", 1, call);
        index("member a;" + FOUR + "close 0 0 0 0;", "member a;close;", 4, call);
        Refusal.of("department -1", TENS, x -> call.of(x, -1), Refusal.THROWN);
        Refusal.of("department 2", TENS, x -> call.of(x, 2), Refusal.THROWN);
    }

    private static void closedYear(ByIndex call) {
        PatronageBooks early = Texts.books("member a;section s;");
        Check.same("year 0 in year 0", (Integer) call.of(early, 0), BAD_VALUE);
        PatronageBooks x = Texts.books("member a;section s;close 0;");
        Check.same("year 0 in year 1", (Integer) call.of(x, 0) == BAD_VALUE, false);
        Check.same("year 1 in year 1", (Integer) call.of(x, 1), BAD_VALUE);
        PatronageBooks late = Texts.books("member a;section s;" + "close 0;".repeat(24));
        Check.same("year 0 in year 24", (Integer) call.of(late, 0) == BAD_VALUE, false);
        Check.same("year 23 in year 24", (Integer) call.of(late, 23) == BAD_VALUE, false);
        int[] bad = {-1, 24, 25, 26, LOW, HIGH};
        for (int y : bad) {
            Check.same("year " + y + " in year 24", (Integer) call.of(late, y), BAD_VALUE);
        }
        Refusal.of("year -1", TENS, y -> call.of(y, -1), BAD_VALUE);
        Refusal.of("year 2", TENS, y -> call.of(y, 2), BAD_VALUE);
    }

    private static void only(String text, int least, int most, ByIndex call) {
        PatronageBooks x = Texts.books(text);
        Check.same("" + least, (Integer) call.of(x, least) == BAD_VALUE, false);
        Check.same("" + most, (Integer) call.of(x, most) == BAD_VALUE, false);
        int[] bad = {least - 1, most + 1, LOW, HIGH};
        for (int value : bad) {
            Refusal.of("" + value, text, y -> call.of(y, value), BAD_VALUE);
        }
    }

    private static Object with(PatronageBooks x, ByResults call, int place, int result) {
        int[] r = new int[4];
        r[place] = result;
        return call.of(x, r[0], r[1], r[2], r[3]);
    }

    private static void results(int refused, ByResults call) {
        for (int departments = 0; departments <= 4; departments++) {
            PatronageBooks x = Texts.books("member a;" + FOUR.substring(0, 10 * departments));
            for (int place = 0; place < 4; place++) {
                int most = place < departments ? 1000000 : 0;
                String what = departments + " departments, place " + place + ", ";
                int[] good = {-most, 0, most};
                for (int result : good) {
                    Check.same(what + result, (Integer) with(x, call, place, result) == refused, false);
                }
                int[] bad = {-most - 1, most + 1, LOW, HIGH};
                for (int result : bad) {
                    Check.same(what + result, (Integer) with(x, call, place, result), refused);
                }
            }
        }
        Refusal.of("too great", TENS, x -> call.of(x, 0, 1000001, 0, 0), refused);
        Refusal.of("too small", TENS, x -> call.of(x, -1000001, 0, 0, 0), refused);
        Refusal.of("no such department", TENS, x -> call.of(x, 0, 0, 1, 0), refused);
        Refusal.of("no such department", TENS, x -> call.of(x, 0, 0, 0, -1), refused);
    }

    private static void budgets(ByIndex call) {
        only(TENS, 0, 10000000, call);
    }

    private static void unchanged(String what, Refusal.Call call, int due) {
        Refusal.of(what, TENS, x -> {
            x.trade(0, 0, 3);
            x.trade(1, 1, 4);
            x.setConsent(0, true);
        }, call, due);
    }

    private static void newObject() {
        Check.section("promise 1: without members and departments, in year 0, an empty buffer, nothing to undo");
        PatronageBooks x = new PatronageBooks();
        Check.same("memberCount", x.memberCount(), 0);
        Check.same("departmentCount", x.departmentCount(), 0);
        Check.same("year", x.year(), 0);
        int[] initial = {25, 10, 5, 3, 0};
        for (int s = 0; s < 5; s++) {
            Check.same("setting " + s, x.getSetting(s), initial[s]);
        }
        Check.same("undoCount", x.undoCount(), 0);
        Check.same("undo", x.undo(), NOT_FOUND);
        Check.same("the buffer is empty", x.load(1), BAD_VALUE);
        Check.same("the buffer is empty", x.feed(0x20202020, 0x20202020, 0x20202020, 0x20202020, 0x20202020), 20);
        Check.same("trade", x.trade(0, 0, 1), NOT_FOUND);
        Check.same("leave", x.leave(0), NOT_FOUND);
        Check.same("setConsent", x.setConsent(0, true), NOT_FOUND);
        Check.same("redeem", x.redeem(10000000), 0);
        Check.same("redeemable", x.redeemable() + x.totalEquity() + x.balance() + x.reserve(), 0);
        Check.same("redemptionsNeeded", x.redemptionsNeeded(0), 0);
        Check.same("close 1", x.close(1, 0, 0, 0), BAD_VALUE);
        Check.same("close", x.close(0, 0, 0, 0), 0);
    }

    private static void memberCount() {
        Check.section("promise 5: 0 to 8, those that left included");
        for (int members = 0; members <= 8; members++) {
            PatronageBooks x = Texts.books(EIGHT.substring(0, 9 * members));
            for (int m = 0; m < members; m++) {
                Check.same("leave " + m, x.leave(m), 0);
            }
            Check.same(members + " members", x.memberCount(), members);
        }
    }

    private static void departmentCount() {
        Check.section("promise 6: 0 to 4");
        for (int departments = 0; departments <= 4; departments++) {
            PatronageBooks x = Texts.books(FOUR.substring(0, 10 * departments));
            Check.same(departments + " departments", x.departmentCount(), departments);
        }
    }

    private static void year() {
        Check.section("promise 7: 0 to 24");
        PatronageBooks x = new PatronageBooks();
        for (int y = 0; y < 24; y++) {
            Check.same("year", x.year(), y);
            Check.same("close", x.close(0, 0, 0, 0), y);
        }
        Check.same("the last year", x.year(), 24);
        Check.same("no more", x.close(0, 0, 0, 0), PatronageBooks.FULL);
        Check.same("the last year", x.year(), 24);
    }

    private static void undoCount() {
        Check.section("promise 8: 0 to 10");
        PatronageBooks x = new PatronageBooks();
        for (int n = 0; n <= 12; n++) {
            Check.same("after " + n, x.undoCount(), Math.min(n, 10));
            x.setSetting(PatronageBooks.CASH, 30);
        }
        for (int n = 9; n >= 0; n--) {
            x.undo();
            Check.same("undone", x.undoCount(), n);
        }
        x.undo();
        Check.same("none to undo", x.undoCount(), 0);
    }

    private static void named(ByIndex call) {
        // Both kinds declare the same names, in the same order.
        String[] names = {"a", "z", "zzzzzz", "abcdef"};
        String[] texts = {"member a;member z;member zzzzzz;member abcdef;section q;",
            "section a;section z;section zzzzzz;section abcdef;member q;"};
        boolean members = (Integer) call.of(Texts.books("member a;"), 1 << 25) == 0;
        PatronageBooks x = Texts.books(texts[members ? 0 : 1]);
        PatronageBooks other = Texts.books(texts[members ? 1 : 0]);
        for (int i = 0; i < 4; i++) {
            Check.same(names[i], (Integer) call.of(x, Texts.name(names[i])), i);
            Check.same(names[i] + " of the other sort", (Integer) call.of(other, Texts.name(names[i])), NOT_FOUND);
        }
        int a = 1 << 25;
        int[] none = {0, 1, 31, a | 1, a | 1 << 20, a | 27 << 20, 27 << 25, 31 << 25, a >> 5, a | 1 << 30, a | 1 << 31,
            -1, LOW, HIGH, Texts.name("abcdef") - 1, Texts.name("abcdef") + 1, Texts.name("abcde"),
            Texts.name("zzzzzz") + 1, Texts.name("q"), a - 1, a + 1};
        for (int letters : none) {
            Check.same("letters " + letters, (Integer) call.of(x, letters), NOT_FOUND);
        }
        Refusal.of("no such name", TENS, y -> call.of(y, Texts.name("ab")), NOT_FOUND);
        Check.same("of a new object", (Integer) call.of(new PatronageBooks(), 0), NOT_FOUND);
        Check.same("of a new object", (Integer) call.of(new PatronageBooks(), a), NOT_FOUND);
    }

    private static void memberNamed() {
        Check.section("promise 9: a is 1, z is 26; unused groups at the end are 0; NOT_FOUND if there is none");
        named((x, letters) -> x.memberNamed(letters));
        PatronageBooks x = Texts.books(TENS);
        x.leave(0);
        Check.same("one that leaves", x.memberNamed(1 << 25), 0);
    }

    private static void departmentNamed() {
        Check.section("promise 10: given as for memberNamed; NOT_FOUND if there is none");
        named((x, letters) -> x.departmentNamed(letters));
    }

    private static void getSetting() {
        Check.section("promise 11: BAD_VALUE if setting is none of these");
        only(TENS, PatronageBooks.CASH, PatronageBooks.POLICY, (x, setting) -> x.getSetting(setting));
        PatronageBooks x = Texts.books("set cash 100;set reserve 50;set years 10;set keep 20;set policy 2;");
        int[] due = {100, 50, 10, 20, 2};
        for (int s = 0; s < 5; s++) {
            Check.same("setting " + s, x.getSetting(s), due[s]);
        }
    }

    private static void consents() {
        Check.section("promise 12: throws if member is not a valid index");
        memberIndex((x, m) -> x.consents(m));
    }

    private static void stateOf() {
        Check.section("promise 13: throws if member is not a valid index");
        memberIndex((x, m) -> x.stateOf(m));
    }

    private static void patronage() {
        Check.section("promise 14: 0 to 1000000; throws if member or department is not a valid index");
        memberIndex((x, m) -> x.patronage(m, 0));
        departmentIndex((x, d) -> x.patronage(0, d));
        index(EIGHT + FOUR, "member a;", 4, (x, d) -> x.patronage(7, d));
        Refusal.of("both", TENS, x -> x.patronage(2, 2), Refusal.THROWN);
        PatronageBooks x = Texts.books(TENS);
        Check.same("0", x.patronage(0, 0), 0);
        for (int n = 1; n <= 10; n++) {
            x.trade(0, 0, 100000);
            Check.same("patronage", x.patronage(0, 0), 100000 * n);
        }
        x.trade(0, 0, 1);
        Check.same("1000000", x.patronage(0, 0), 1000000);
    }

    private static void totalPatronage() {
        Check.section("promise 15: throws if department is not a valid index");
        departmentIndex((x, d) -> x.totalPatronage(d));
        PatronageBooks x = Texts.books(EIGHT + FOUR);
        Check.same("none", x.totalPatronage(3), 0);
        for (int n = 0; n < 80; n++) {
            x.trade(n / 10, 3, 100000);
        }
        Check.same("the most", x.totalPatronage(3), 8000000);
        Check.same("none", x.totalPatronage(2), 0);
    }

    private static void certificate() {
        Check.section("promise 16: 0 if the member got none; BAD_VALUE if year was not closed; the member first");
        memberIndex((x, m) -> x.certificate(m, 0));
        memberIndex((x, m) -> x.certificate(m, -1));
        closedYear((x, y) -> x.certificate(0, y));
        PatronageBooks x = Texts.books("member a;member b;section s;trade a s 1;close 1;");
        Check.same("1", x.certificate(0, 0), 1);
        Check.same("none", x.certificate(1, 0), 0);
    }

    private static void kindOf() {
        Check.section("promise 17: NOT_FOUND if nothing is left of it or the member got none; BAD_VALUE; the member first");
        memberIndex((x, m) -> x.kindOf(m, 0));
        memberIndex((x, m) -> x.kindOf(m, 99));
        closedYear((x, y) -> x.kindOf(0, y));
        PatronageBooks x = Texts.books(TENS);
        x.redeem(39);
        Check.same("nothing is left", x.kindOf(0, 1), NOT_FOUND);
        Check.same("1 is left", x.kindOf(1, 1), PatronageBooks.NONQUALIFIED);
        x.redeem(1);
        Check.same("nothing is left", x.kindOf(1, 1), NOT_FOUND);
        x.close(0, 0, 0, 0);
        Check.same("got none", x.kindOf(1, 2), NOT_FOUND);
        x.setConsent(0, true);
        x.trade(0, 0, 1);
        x.close(1, 0, 0, 0);
        Check.same("qualified", x.kindOf(0, 3), PatronageBooks.QUALIFIED);
    }

    private static void equityOf() {
        Check.section("promise 18: throws if member is not a valid index");
        memberIndex((x, m) -> x.equityOf(m));
        PatronageBooks x = Texts.books(TENS);
        Check.same("equity", x.equityOf(1), 20);
        x.redeem(39);
        Check.same("1", x.equityOf(1), 1);
        Check.same("0", x.equityOf(0), 0);
    }

    private static void equityIn() {
        Check.section("promise 19: BAD_VALUE if kind is neither; the member first");
        memberIndex((x, m) -> x.equityIn(m, PatronageBooks.QUALIFIED));
        memberIndex((x, m) -> x.equityIn(m, 2));
        only(TENS, PatronageBooks.QUALIFIED, PatronageBooks.NONQUALIFIED, (x, kind) -> x.equityIn(1, kind));
        PatronageBooks x = Texts.books(TENS);
        x.setConsent(0, true);
        x.trade(0, 0, 1);
        x.close(1, 0, 0, 0);
        Check.same("qualified", x.equityIn(0, PatronageBooks.QUALIFIED), 1);
        Check.same("nonqualified", x.equityIn(0, PatronageBooks.NONQUALIFIED), 20);
        Check.same("qualified", x.equityIn(1, PatronageBooks.QUALIFIED), 0);
    }

    private static void totalEquity() {
        Check.section("promise 20: the sum of the equities of all members");
        Check.same("none", new PatronageBooks().totalEquity(), 0);
        PatronageBooks x = Texts.books(TENS);
        x.leave(0);
        Check.same("those that leave, too", x.totalEquity(), 40);
    }

    private static void reserve() {
        Check.section("promise 21: the amount, which may be negative");
        PatronageBooks x = Texts.books(FOUR);
        Check.same("0", x.reserve(), 0);
        x.close(0, 0, 0, -1);
        Check.same("-1", x.reserve(), -1);
        x.close(1, 0, 0, 0);
        Check.same("0", x.reserve(), 0);
        for (int n = 0; n < 22; n++) {
            x.close(-1000000, -1000000, -1000000, -1000000);
        }
        Check.same("-88000000", x.reserve(), -88000000);
    }

    private static void paidTo() {
        Check.section("promise 22: 0, 1 or 2; BAD_VALUE for any other what; the member first");
        memberIndex((x, m) -> x.paidTo(m, 2));
        memberIndex((x, m) -> x.paidTo(m, 3));
        only(TENS, 0, 2, (x, what) -> x.paidTo(0, what));
        PatronageBooks x = Texts.books("member a consent;section s;set reserve 0;set keep 0;set years 2;set cash 20;");
        for (int n = 1; n <= 2; n++) {
            x.trade(0, 0, 1);
            x.close(10, 0, 0, 0);
            x.redeem(3);
        }
        x.leave(0);
        Check.same("all cash with allocations so far", x.paidTo(0, 0), 4);
        Check.same("all redemptions so far", x.paidTo(0, 1), 6);
        Check.same("no installment so far", x.paidTo(0, 2), 0);
        x.close(0, 0, 0, 0);
        Check.same("an installment", x.paidTo(0, 2), 5);
        x.close(0, 0, 0, 0);
        Check.same("all installments", x.paidTo(0, 2), 10);
        Check.same("all redemptions so far", x.paidTo(0, 1), 6);
    }

    private static void lastAllocation() {
        Check.section("promise 23: negative if losses were greater; 0 if no year was closed");
        memberIndex((x, m) -> x.lastAllocation(m));
        PatronageBooks x = Texts.books("member a;section s;section t;set reserve 0;trade a s 1;trade a t 1;");
        Check.same("no year", x.lastAllocation(0), 0);
        x.close(5, -6, 0, 0);
        Check.same("-1", x.lastAllocation(0), -1);
        x.undo();
        x.close(6, -5, 0, 0);
        Check.same("1", x.lastAllocation(0), 1);
        x.close(6, -5, 0, 0);
        Check.same("the latest year alone", x.lastAllocation(0), 0);
    }

    private static void lastRecapture() {
        Check.section("promise 24: 0 if no year was closed");
        memberIndex((x, m) -> x.lastRecapture(m));
        PatronageBooks x = Texts.books("member a;section s;set reserve 0;");
        Check.same("no year", x.lastRecapture(0), 0);
        x.trade(0, 0, 1);
        x.close(5, 0, 0, 0);
        x.trade(0, 0, 1);
        x.close(-6, 0, 0, 0);
        Check.same("not what the reserve bore", x.lastRecapture(0), 5);
        x.close(0, 0, 0, 0);
        Check.same("the latest year alone", x.lastRecapture(0), 0);
        x.undo();
        Check.same("the latest year alone", x.lastRecapture(0), 5);
        x.trade(0, 0, 1);
        x.close(-6, 0, 0, 0);
        Check.same("there is nothing more", x.lastRecapture(0), 0);
    }

    private static void rateOf() {
        Check.section("promise 25: 0 if no year was closed or there was no patronage");
        departmentIndex((x, d) -> x.rateOf(d));
        PatronageBooks x = Texts.books("member a;section s;section t;set reserve 50;trade a s 3;");
        Check.same("no year", x.rateOf(0), 0.0);
        x.close(3, 3, 0, 0);
        Check.same("without the reserve", x.rateOf(0), (double) (2f / 3f));
        Check.same("no patronage", x.rateOf(1), 0.0);
        x.trade(0, 1, 1);
        x.close(3, -1, 0, 0);
        Check.same("no patronage in the latest year", x.rateOf(0), 0.0);
        Check.same("a patronage of 1", x.rateOf(1), -1.0);
        x.trade(0, 1, 1);
        x.close(0, 0, 0, 0);
        Check.same("a result of 0", x.rateOf(1), 0.0);
        PatronageBooks y = Texts.books("member a;member b;section s;set reserve 0;trade a s 1;trade b s 2;close 1;");
        Check.same("float, not double", y.rateOf(0), (double) (1f / 3f));
    }

    private static int points(int patronage, int result) {
        PatronageBooks x = Texts.books("member a;section s;set reserve 0;trade a s " + patronage + ";close " + result + ";");
        return x.ratePoints(0);
    }

    private static void ratePoints() {
        Check.section("promise 26: the rate times 10000 (computed as a float), cast to int");
        departmentIndex((x, d) -> x.ratePoints(d));
        Check.same("0", points(1, 0), 0);
        Check.same("1", points(10000, 1), 1);
        Check.same("0.99", points(10001, 1), 0);
        Check.same("-0.99", points(10001, -1), 0);
        Check.same("-1", points(10000, -1), -1);
        Check.same("0.67", points(3, 2), 6666);
        Check.same("-0.67", points(3, -2), -6666);
        // Between 2 to the 30th and 2 to the 31st a float is a multiple of 128.
        Check.same("214748", points(1, 214748), 2147480064);
        Check.same("214749", points(1, 214749), HIGH);
        Check.same("1000000", points(1, 1000000), HIGH);
        Check.same("-214748", points(1, -214748), -2147480064);
        Check.same("-214749", points(1, -214749), LOW);
        Check.same("-1000000", points(1, -1000000), LOW);
        Check.same("no year", Texts.books("section s;").ratePoints(0), 0);
        Check.same("no patronage", Texts.books("section s;close 5;").ratePoints(0), 0);
    }

    private static void meanAge() {
        Check.section("promise 27: NaN if the equity is 0");
        memberIndex((x, m) -> x.meanAge(m));
        PatronageBooks x = Texts.books(TENS);
        Check.same("ages 2 and 1", x.meanAge(1), 1.5);
        x.redeem(39);
        Check.same("an equity of 0", x.meanAge(0), Double.NaN);
        Check.same("an equity of 1", x.meanAge(1), 1.0);
        x.close(0, 0, 0, 0);
        Check.same("a year older", x.meanAge(1), 2.0);
        Check.same("none yet", Texts.books("member a;").meanAge(0), Double.NaN);
        PatronageBooks y = Texts.books("member a;section s;set reserve 0;trade a s 1;close 1;trade a s 1;close 2;");
        Check.same("double, not float", y.meanAge(0), 4.0 / 3.0);
    }

    private static void oldestYear() {
        Check.section("promise 28: NOT_FOUND if the equity is 0");
        memberIndex((x, m) -> x.oldestYear(m));
        PatronageBooks x = Texts.books(TENS);
        Check.same("year 0", x.oldestYear(0), 0);
        x.redeem(19);
        Check.same("1 is left", x.oldestYear(1), 0);
        Check.same("nothing is left", x.oldestYear(0), 1);
        x.redeem(1);
        Check.same("nothing is left", x.oldestYear(1), 1);
        x.redeem(19);
        Check.same("no equity", x.oldestYear(0), NOT_FOUND);
        Check.same("an equity of 1", x.oldestYear(1), 1);
        PatronageBooks y = Texts.books("member a;section s;" + "close 0;".repeat(23) + "trade a s 1;close 1;");
        Check.same("year 23", y.oldestYear(0), 23);
    }

    private static void isUniform() {
        Check.section("promise 29: true if they are, also if there are none");
        memberIndex((x, m) -> x.isUniform(m));
        PatronageBooks x = Texts.books("member a;section s;set reserve 0;set keep 0;");
        Check.same("none", x.isUniform(0), true);
        x.trade(0, 0, 1);
        x.close(1, 0, 0, 0);
        Check.same("one", x.isUniform(0), true);
        x.setConsent(0, true);
        x.trade(0, 0, 1);
        x.close(1, 0, 0, 0);
        Check.same("1 of each kind", x.isUniform(0), false);
        x.redeem(1);
        Check.same("nothing is left of one kind", x.isUniform(0), true);
        x.redeem(1);
        Check.same("none any more", x.isUniform(0), true);
    }

    private static void wouldGet() {
        Check.section("promise 30: BAD_RESULT if close would return BAD_VALUE; the member first");
        memberIndex((x, m) -> x.wouldGet(m, 0, 0, 0, 0));
        memberIndex((x, m) -> x.wouldGet(m, 0, 0, 0, 9));
        results(PatronageBooks.BAD_RESULT, (x, a, b, c, d) -> x.wouldGet(0, a, b, c, d));
        unchanged("a question only", x -> x.wouldGet(0, 1000000, -1000000, 0, 0), 1000000);
        unchanged("a question only", x -> x.wouldGet(1, 1000000, -1000000, 0, 0), -1000000);
        PatronageBooks late = Texts.books("member a;section s;" + "close 0;".repeat(24) + "trade a s 1;");
        Check.same("year 24", late.wouldGet(0, 10, 0, 0, 0), 9);
        Check.same("year 24", late.wouldGet(0, 10, 1, 0, 0), PatronageBooks.BAD_RESULT);
        Check.same("year 24", late.year(), 24);
    }

    private static void topMember() {
        Check.section("promise 31: ties by lower index; BAD_VALUE (checked first); NOT_FOUND if there are no members");
        results(BAD_VALUE, (x, a, b, c, d) -> x.topMember(a, b, c, d));
        unchanged("a question only", x -> x.topMember(5, 5, 0, 0), 0);
        PatronageBooks x = Texts.books("member a;member b;member c;section s;trade b s 1;trade c s 1;");
        Check.same("0 all", x.topMember(0, 0, 0, 0), 0);
        Check.same("0, 1 and 0", x.topMember(1, 0, 0, 0), 1);
        Check.same("0, 1 and 1", x.topMember(2, 0, 0, 0), 1);
        Check.same("0, -1 and 0", x.topMember(-1, 0, 0, 0), 0);
        x.trade(0, 0, 1);
        Check.same("-1, 0 and 0", x.topMember(-1, 0, 0, 0), 1);
        Check.same("-1, -1 and 0", x.topMember(-2, 0, 0, 0), 2);
        Check.same("-1 all", x.topMember(-3, 0, 0, 0), 0);
        PatronageBooks y = Texts.books("section s;");
        Check.same("no members", y.topMember(0, 0, 0, 0), NOT_FOUND);
        Check.same("no members", y.topMember(1000000, 0, 0, 0), NOT_FOUND);
        Check.same("the results first", y.topMember(1000001, 0, 0, 0), BAD_VALUE);
        Check.same("the results first", new PatronageBooks().topMember(1, 0, 0, 0), BAD_VALUE);
    }

    private static void redeemable() {
        Check.section("promise 32: the sum of all amounts that a redemption could redeem now");
        PatronageBooks x = Texts.books(TENS);
        x.setSetting(PatronageBooks.KEEP, 2);
        Check.same("just old enough", x.redeemable(), 20);
        x.setSetting(PatronageBooks.KEEP, 3);
        Check.same("just too young", x.redeemable(), 0);
        Check.same("none", new PatronageBooks().redeemable(), 0);
    }

    private static void wouldRedeem() {
        Check.section("promise 33: 0 to 10000000; BAD_VALUE if budget is out of range; the member first");
        memberIndex((x, m) -> x.wouldRedeem(m, 0));
        memberIndex((x, m) -> x.wouldRedeem(m, -1));
        budgets((x, budget) -> x.wouldRedeem(0, budget));
        unchanged("a question only", x -> x.wouldRedeem(0, 21), 11);
        PatronageBooks x = Texts.books(TENS);
        Check.same("0", x.wouldRedeem(0, 0), 0);
        Check.same("10000000", x.wouldRedeem(0, 10000000), 20);
    }

    private static void budgetThrough() {
        Check.section("promise 34: of a year or of earlier years; BAD_VALUE if year was not closed");
        closedYear((x, y) -> x.budgetThrough(y));
        PatronageBooks x = Texts.books(TENS);
        Check.same("year 0", x.budgetThrough(0), 20);
        Check.same("year 1", x.budgetThrough(1), 40);
        x.setSetting(PatronageBooks.KEEP, 2);
        Check.same("year 1 is too young", x.budgetThrough(1), 20);
        x.setSetting(PatronageBooks.KEEP, 3);
        Check.same("year 0 is too young", x.budgetThrough(1), 0);
    }

    private static void installmentsLeft() {
        Check.section("promise 35: 0 to 10; 0 unless the member is LEAVING");
        memberIndex((x, m) -> x.installmentsLeft(m));
        PatronageBooks x = Texts.books(TENS);
        Check.same("active", x.installmentsLeft(0), 0);
        x.setSetting(PatronageBooks.YEARS, 10);
        x.leave(0);
        for (int left = 10; left > 0; left--) {
            Check.same("leaving", x.installmentsLeft(0), left);
            x.close(0, 0, 0, 0);
        }
        Check.same("gone", x.installmentsLeft(0), 0);
        x.close(0, 0, 0, 0);
        Check.same("gone", x.installmentsLeft(0), 0);
    }

    private static void installment() {
        Check.section("promise 36: 0 for the next one; NOT_FOUND if there are not so many left");
        memberIndex((x, m) -> x.installment(m, 0));
        memberIndex((x, m) -> x.installment(m, -1));
        PatronageBooks x = Texts.books(TENS);
        Check.same("active", x.installment(0, 0), NOT_FOUND);
        x.setSetting(PatronageBooks.YEARS, 3);
        x.leave(0);
        int[] due = {7, 7, 6};
        for (int gone = 0; gone < 3; gone++) {
            for (int k = 0; gone + k < 3; k++) {
                Check.same("installment " + k + " behind " + gone, x.installment(0, k), due[gone + k]);
            }
            int[] none = {3 - gone, 4, 10, HIGH, -1, LOW};
            for (int k : none) {
                Check.same("installment " + k + " behind " + gone, x.installment(0, k), NOT_FOUND);
            }
            x.close(0, 0, 0, 0);
        }
        Check.same("gone", x.installment(0, 0), NOT_FOUND);
        Refusal.of("one too many", TENS, y -> y.leave(1), y -> y.installment(1, 5), NOT_FOUND);
    }

    private static void balance() {
        Check.section("promise 37: what the total equity must be");
        Check.same("none", new PatronageBooks().balance(), 0);
        PatronageBooks x = Texts.books("member a consent;member b;section s;set keep 0;set cash 100;trade a s 1;close 100;");
        Check.same("cash alone", x.balance(), 0);
        x.trade(1, 0, 1);
        x.close(1, 0, 0, 0);
        Check.same("1", x.balance(), 1);
        x.trade(1, 0, 1);
        x.close(-2, 0, 0, 0);
        Check.same("only what was recaptured", x.balance(), 0);
        x.undo();
        x.redeem(5);
        Check.same("only what was redeemed", x.balance(), 0);
        x.undo();
        x.undo();
        x.trade(1, 0, 1);
        x.close(10, 0, 0, 0);
        for (int n = 1; n <= 2; n++) {
            x.trade(1, 0, 1);
            x.close(-3, 0, 0, 0);
            x.redeem(1);
        }
        Check.same("all of these together", x.balance(), 1 + 9 - 3 - 1 - 3 - 1);
        x.setSetting(PatronageBooks.YEARS, 1);
        x.leave(1);
        x.close(0, 0, 0, 0);
        Check.same("the installment", x.balance(), 0);
    }

    private static void nextInLine() {
        Check.section("promise 38: with a budget of 1; NOT_FOUND if nothing can be redeemed now");
        Check.same("no members", new PatronageBooks().nextInLine(), NOT_FOUND);
        PatronageBooks two = Texts.books("member a;member b;section s;set reserve 0;set keep 0;trade a s 1;trade b s 2;close 30;");
        // A budget of 2 would be paid to both.
        Check.same("the one unit is b's", two.nextInLine(), 1);
        two.setSetting(PatronageBooks.POLICY, 1);
        Check.same("the one unit is b's", two.nextInLine(), 1);
        two.setSetting(PatronageBooks.POLICY, 2);
        Check.same("the one unit is a's", two.nextInLine(), 0);
        PatronageBooks x = Texts.books(TENS);
        x.redeem(39);
        Check.same("the last unit", x.nextInLine(), 1);
        x.setSetting(PatronageBooks.KEEP, 2);
        Check.same("just too young", x.nextInLine(), NOT_FOUND);
        x.setSetting(PatronageBooks.KEEP, 1);
        Check.same("just old enough", x.nextInLine(), 1);
        x.leave(1);
        Check.same("not active", x.nextInLine(), NOT_FOUND);
        Refusal.of("nothing", TENS, y -> y.setSetting(PatronageBooks.KEEP, 3), y -> y.nextInLine(), NOT_FOUND);
        unchanged("a question only", y -> y.nextInLine(), 0);
    }

    private static void yearsUntil() {
        Check.section("promise 39: how much its age is less than KEEP, 0 if it is not; BAD_VALUE; NOT_FOUND; the member first");
        memberIndex((x, m) -> x.yearsUntil(m, 0));
        memberIndex((x, m) -> x.yearsUntil(m, 99));
        closedYear((x, y) -> x.yearsUntil(0, y));
        PatronageBooks x = Texts.books(TENS);
        int[] due = {0, 0, 0, 1, 2};
        for (int keep = 0; keep < 5; keep++) {
            x.setSetting(PatronageBooks.KEEP, keep);
            Check.same("age 2, KEEP " + keep, x.yearsUntil(0, 0), due[keep]);
        }
        x.setSetting(PatronageBooks.KEEP, 20);
        Check.same("age 1, KEEP 20", x.yearsUntil(0, 1), 19);
        x.setSetting(PatronageBooks.KEEP, 0);
        x.redeem(19);
        Check.same("1 is left", x.yearsUntil(1, 0), 0);
        Check.same("nothing is left", x.yearsUntil(0, 0), NOT_FOUND);
        x.setSetting(PatronageBooks.YEARS, 1);
        x.leave(1);
        Check.same("leaving", x.yearsUntil(1, 1), NOT_FOUND);
        Check.same("leaving, the year first", x.yearsUntil(1, 2), BAD_VALUE);
        x.close(0, 0, 0, 0);
        Check.same("gone", x.yearsUntil(1, 1), NOT_FOUND);
        Check.same("got none", x.yearsUntil(0, 2), NOT_FOUND);
    }

    private static void equityOfYear() {
        Check.section("promise 40: of all members; BAD_VALUE if year was not closed");
        closedYear((x, y) -> x.equityOfYear(y));
        PatronageBooks x = Texts.books(TENS);
        x.leave(0);
        Check.same("those that leave, too", x.equityOfYear(0), 20);
        x.close(0, 0, 0, 0);
        Check.same("a year without", x.equityOfYear(2), 0);
        Check.same("reduced by installments", x.equityOfYear(0), 16);
    }

    private static void wouldReserve() {
        Check.section("promise 41: BAD_RESULT if close would return BAD_VALUE");
        results(PatronageBooks.BAD_RESULT, (x, a, b, c, d) -> x.wouldReserve(a, b, c, d));
        unchanged("a question only", x -> x.wouldReserve(0, -1000000, 0, 0), -999980);
        PatronageBooks late = Texts.books("member a;section s;" + "close 0;".repeat(24));
        Check.same("year 24", late.wouldReserve(-1, 0, 0, 0), -1);
        Check.same("year 24", late.wouldReserve(0, -1, 0, 0), PatronageBooks.BAD_RESULT);
    }

    private static void cashNeeded() {
        Check.section("promise 42: BAD_VALUE if close would return it");
        results(BAD_VALUE, (x, a, b, c, d) -> x.cashNeeded(a, b, c, d));
        // CASH is 77 in these objects, and member 0 consents.
        unchanged("a question only", x -> x.cashNeeded(1000000, 0, 0, 0), 770000);
        PatronageBooks late = Texts.books("member a consent;section s;" + "close 0;".repeat(24) + "trade a s 1;");
        Check.same("year 24", late.cashNeeded(4, 0, 0, 0), 1);
        Check.same("year 24", late.cashNeeded(3, 0, 0, 0), 0);
        Check.same("year 24", late.cashNeeded(4, 1, 0, 0), BAD_VALUE);
        Check.same("no members", new PatronageBooks().cashNeeded(0, 0, 0, 0), 0);
        PatronageBooks x = Texts.books(TENS);
        x.setConsent(0, true);
        x.trade(0, 0, 1);
        x.close(100, 0, 0, 0);
        x.leave(1);
        x.close(0, 0, 0, 0);
        Check.same("the next installment, not what was paid before", x.cashNeeded(0, 0, 0, 0), 4);
    }

    private static void richest() {
        Check.section("promise 43: ties by lower index; NOT_FOUND if there are no members");
        Check.same("no members", Texts.books("section s;close 5;").richest(), NOT_FOUND);
        Check.same("no members", new PatronageBooks().richest(), NOT_FOUND);
        Check.same("no equity", Texts.books(EIGHT).richest(), 0);
        PatronageBooks x = Texts.books(TENS);
        Check.same("a tie", x.richest(), 0);
        x.redeem(1);
        Check.same("one less", x.richest(), 1);
        x.redeem(1);
        Check.same("a tie again", x.richest(), 0);
        PatronageBooks y = Texts.books(EIGHT + "section s;trade h s 1;close 1;");
        Check.same("the last", y.richest(), 7);
        y.leave(7);
        Check.same("also if it leaves", y.richest(), 7);
    }

    private static void membersIn() {
        Check.section("promise 44: BAD_VALUE if state is none of these");
        only(TENS, PatronageBooks.ACTIVE, PatronageBooks.GONE, (x, state) -> x.membersIn(state));
        PatronageBooks x = Texts.books(EIGHT);
        Check.same("all", x.membersIn(PatronageBooks.ACTIVE), 8);
        Check.same("none", x.membersIn(PatronageBooks.LEAVING) + x.membersIn(PatronageBooks.GONE), 0);
        for (int m = 0; m < 8; m++) {
            x.leave(m);
            Check.same("gone", x.membersIn(PatronageBooks.GONE), m + 1);
        }
        Check.same("none", x.membersIn(PatronageBooks.ACTIVE), 0);
        Check.same("no members", new PatronageBooks().membersIn(PatronageBooks.ACTIVE), 0);
    }

    private static void partOf() {
        Check.section("promise 45: NaN if the total equity is 0");
        memberIndex((x, m) -> x.partOf(m));
        PatronageBooks x = Texts.books(TENS);
        Check.same("half", x.partOf(0), 0.5);
        x.redeem(39);
        Check.same("a total of 1", x.partOf(0), 0.0);
        Check.same("a total of 1", x.partOf(1), 1.0);
        x.redeem(1);
        Check.same("a total of 0", x.partOf(0), Double.NaN);
        Check.same("a total of 0", x.partOf(1), Double.NaN);
        PatronageBooks y = Texts.books("member a;member b;section s;set reserve 0;trade a s 1;trade b s 2;close 3;");
        Check.same("double, not float", y.partOf(0), 1.0 / 3.0);
    }

    private static int needed(int keep, int equity, int budget) {
        PatronageBooks x = Texts.books("member a;section s;set reserve 0;set keep " + keep + ";trade a s 1;close " + equity + ";");
        return x.redemptionsNeeded(budget);
    }

    private static void redemptionsNeeded() {
        Check.section("promise 46: 0 if active members have no equity, at most 60; NOT_FOUND; BAD_VALUE");
        budgets((x, budget) -> x.redemptionsNeeded(budget));
        unchanged("a question only", x -> x.redemptionsNeeded(39), 2);
        Check.same("1 of 1", needed(0, 1, 1), 1);
        Check.same("59", needed(1, 59, 1), 59);
        Check.same("60", needed(1, 60, 1), 60);
        Check.same("61", needed(1, 61, 1), NOT_FOUND);
        Check.same("600 with 10", needed(1, 600, 10), 60);
        Check.same("601 with 10", needed(1, 601, 10), NOT_FOUND);
        Check.same("KEEP 2: from the next year on", needed(2, 59, 1), 60);
        Check.same("KEEP 2: from the next year on", needed(2, 60, 1), NOT_FOUND);
        // In the present year 1 the certificate is of age 1; with the 20th redemption it is of age 20.
        Check.same("KEEP 20", needed(20, 41, 1), 60);
        Check.same("KEEP 20", needed(20, 42, 1), NOT_FOUND);
        Check.same("KEEP 20", needed(20, 1, 10000000), 20);
        Check.same("a budget of 0", needed(0, 1, 0), NOT_FOUND);
        Check.same("no equity", needed(0, 0, 0), 0);
        Check.same("no members", new PatronageBooks().redemptionsNeeded(0), 0);
        Check.same("the budget is looked at all the same", new PatronageBooks().redemptionsNeeded(-1), BAD_VALUE);
        PatronageBooks x = Texts.books(TENS);
        x.leave(0);
        Check.same("active members alone", x.redemptionsNeeded(20), 1);
        Check.same("active members alone", x.redemptionsNeeded(19), 2);
        x.leave(1);
        Check.same("no active member", x.redemptionsNeeded(0), 0);
        PatronageBooks one = Texts.books("member a;member b;section s;set keep 0;trade a s 1;close 1;");
        Check.same("the first member alone has equity", one.redemptionsNeeded(1), 1);
    }

    private static void redemptionsBehindTheLastYear() {
        Check.section("promise 46: one in the present year and one in each year behind it, also behind year 24");
        PatronageBooks x = Texts.books("member a;section s;set reserve 0;set keep 20;" + "close 0;".repeat(23)
                + "trade a s 1;close 41;");
        Check.same("year", x.year(), 24);
        Check.same("all at once", x.redemptionsNeeded(41), 20);
        Check.same("one by one", x.redemptionsNeeded(1), 60);
        Check.same("year", x.year(), 24);
    }

    private static void eightMembers() {
        Check.section("sums over eight members");
        StringBuilder text = new StringBuilder(EIGHT + "section s;set reserve 0;set keep 0;");
        for (int m = 0; m < 8; m++) {
            text.append("trade ").append((char) ('a' + m)).append(" s ").append(m + 1).append(';');
        }
        PatronageBooks x = Texts.books(text + "close 36;");
        for (int m = 0; m < 8; m++) {
            Check.same("certificate " + m, x.certificate(m, 0), m + 1);
            Check.same("wouldRedeem " + m, x.wouldRedeem(m, 36), m + 1);
            Check.same("partOf " + m, x.partOf(m), (m + 1) / 36.0);
        }
        Check.same("totalEquity", x.totalEquity(), 36);
        Check.same("balance", x.balance(), 36);
        Check.same("redeemable", x.redeemable(), 36);
        Check.same("budgetThrough", x.budgetThrough(0), 36);
        Check.same("equityOfYear", x.equityOfYear(0), 36);
        Check.same("redemptionsNeeded", x.redemptionsNeeded(36), 1);
        Check.same("redemptionsNeeded", x.redemptionsNeeded(35), 2);
        Check.same("richest", x.richest(), 7);
        Check.same("nextInLine", x.nextInLine(), 7);
        Check.same("redeem", x.redeem(36), 36);
        Check.same("all at once", x.redemptionsNeeded(0), 0);
    }

    private static void theGreatestBooks() {
        Check.section("the greatest sums");
        PatronageBooks x = Texts.books("member a;" + FOUR + "set reserve 0;set keep 0;");
        for (int n = 0; n < 24; n++) {
            for (int d = 0; d < 4; d++) {
                x.trade(0, d, 1);
            }
            x.close(1000000, 1000000, 1000000, 1000000);
        }
        Check.same("equityOf", x.equityOf(0), 96000000);
        Check.same("balance", x.balance(), 96000000);
        Check.same("redeemable", x.redeemable(), 96000000);
        Check.same("budgetThrough", x.budgetThrough(22), 92000000);
        Check.same("meanAge", x.meanAge(0), 12.5);
        Check.same("redemptionsNeeded", x.redemptionsNeeded(10000000), 10);
        Check.same("wouldReserve", x.wouldReserve(-1000000, -1000000, -1000000, -1000000), -4000000);
        Check.same("policy 0", x.redeem(10000000), 10000000);
        Check.same("policy 0", x.certificate(0, 1) + x.certificate(0, 2), 2000000);
        x.undo();
        x.setSetting(PatronageBooks.POLICY, 1);
        Check.same("policy 1", x.redeem(10000000), 10000000);
        // 416666 and two thirds each: 16 units are left.
        Check.same("policy 1", x.certificate(0, 15), 4000000 - 416667);
        Check.same("policy 1", x.certificate(0, 16), 4000000 - 416666);
        x.undo();
        x.setSetting(PatronageBooks.POLICY, 2);
        Check.same("policy 2", x.redeem(10000000), 10000000);
        Check.same("policy 2", x.certificate(0, 2), 2000000);
        for (int d = 0; d < 4; d++) {
            x.trade(0, d, 1);
        }
        Check.same("the least wouldGet", x.wouldGet(0, -1000000, -1000000, -1000000, -1000000), -4000000);
    }
}
