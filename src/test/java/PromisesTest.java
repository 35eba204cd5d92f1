/** The promises of the document one by one, with answers worked out by hand. */
public final class PromisesTest {
    private static final int INDEX_LOW = -1;

    // Year 0: grain 900 to ann 300 and bob 600, milk -60 to ann and cy; ann gets 67 in cash.
    private static final String THREE = "member ann consent;member bob;member cy consent;section grain;section milk;"
            + "set keep 1;trade ann grain 100;trade bob grain 200;trade cy milk 50;trade ann milk 50;close 1000 -60;";

    // Three certificates a year for two years: 10, 20, 30 of year 0 and 40, 10, 25 of year 1.
    private static final String SIX = "member a;member b;member c;section s;set reserve 0;set keep 0;"
            + "trade a s 10;trade b s 20;trade c s 30;close 60;trade a s 40;trade b s 10;trade c s 25;close 75;";

    public static void main(String[] args) {
        newObject();
        feed();
        loadAnswers();
        loadSyntax();
        loadRange();
        loadNames();
        loadDuplicates();
        loadOrderAndCount();
        loadEffects();
        errorPosition();
        counts();
        names();
        settings();
        consentAndState();
        patronage();
        certificates();
        equities();
        reserveAndLosses();
        payments();
        latestYear();
        rates();
        ages();
        uniform();
        wouldGet();
        topMember();
        redeemable();
        wouldRedeem();
        budgetThrough();
        installments();
        balance();
        nextInLine();
        yearsUntil();
        equityOfYear();
        wouldReserve();
        cashNeeded();
        richest();
        membersIn();
        partOf();
        redemptionsNeeded();
        trade();
        close();
        closeSharing();
        redeem();
        redeemPolicies();
        leave();
        setConsent();
        setSetting();
        undo();
        Check.end();
    }

    private static void newObject() {
        Check.section("promise 1");
        PatronageBooks x = new PatronageBooks();
        Check.same("memberCount", x.memberCount(), 0);
        Check.same("departmentCount", x.departmentCount(), 0);
        Check.same("year", x.year(), 0);
        int[] initial = {25, 10, 5, 3, 0};
        for (int s = 0; s < 5; s++) {
            Check.same("getSetting " + s, x.getSetting(s), initial[s]);
        }
        Check.same("undoCount", x.undoCount(), 0);
        Check.same("undo", x.undo(), PatronageBooks.NOT_FOUND);
        Check.same("reserve", x.reserve(), 0);
        Check.same("load(1)", x.load(1), PatronageBooks.BAD_VALUE);
        Check.same("load(0)", x.load(0), 0);
    }

    private static void feed() {
        Check.section("promise 2");
        PatronageBooks x = new PatronageBooks();
        // "member a;set policy " is just 20 bytes, so every byte of every parameter counts.
        Check.same("feed", x.feed(0x6d656d62, 0x65722061, 0x3b736574, 0x20706f6c, 0x69637920), 20);
        Check.same("feed", x.feed(0x323b0a20, 0x20202020, 0x20202020, 0x20202020, 0x20202020), 40);
        Check.same("load", x.load(40), 2);
        Check.same("policy", x.getSetting(PatronageBooks.POLICY), 2);
        Check.same("a", x.memberNamed(Texts.name("a")), 0);
        for (int n = 1; n <= 45; n++) {
            Check.same("feed " + n, x.feed(0x20202020, 0x20202020, 0x20202020, 0x20202020, 0x20202020), 20 * n);
        }
        Check.same("feed 46", x.feed(-1, -1, -1, -1, -1), PatronageBooks.FULL);
        Check.same("load(901)", x.load(901), PatronageBooks.BAD_VALUE);
        Check.same("load(900)", x.load(900), 0);
        Check.same("feed again", x.feed(0, 0, 0, 0, 0), 20);
        Check.same("a byte of 0", x.load(20), PatronageBooks.SYNTAX_ERROR);
    }

    private static void loadAnswers() {
        Check.section("promise 3");
        PatronageBooks x = new PatronageBooks();
        Check.same("load(-1)", x.load(-1), PatronageBooks.BAD_VALUE);
        Texts.feed(x, "member a;section b;");
        Check.same("load(21)", x.load(21), PatronageBooks.BAD_VALUE);
        Check.same("load(9)", x.load(9), 1);
        Check.same("the rest is not read", x.departmentCount(), 0);
        Check.same("the buffer is empty", x.load(1), PatronageBooks.BAD_VALUE);
        Check.same("THREE", Texts.load(x, THREE), 11);
        x.trade(1, 0, 1);
        Check.same("an error", Texts.load(x, "member z;;"), PatronageBooks.SYNTAX_ERROR);
        Check.same("the buffer is empty", x.load(1), PatronageBooks.BAD_VALUE);
        Check.same("nothing else changes", x.memberCount() * 10 + x.undoCount(), 31);
        Check.same("nothing else changes", x.memberNamed(Texts.name("ann")), 0);
        Check.same("nothing else changes", x.patronage(1, 0), 1);
        Check.same("no statement", Texts.load(x, " \n "), 0);
        Check.same("replaced", x.memberCount() + x.departmentCount() + x.year() + x.reserve() + x.undoCount(), 0);
        Check.same("replaced", x.getSetting(PatronageBooks.KEEP), 3);
        Texts.load(x, THREE);
        Texts.load(x, "member q;section r;");
        Check.same("nothing is left over", x.equityOf(0) + x.patronage(0, 0) + x.paidTo(0, 0) + x.lastAllocation(0), 0);
        Check.same("nothing is left over", x.consents(0), false);
        Check.same("nothing is left over", x.rateOf(0), 0.0);
        Check.same("nothing is left over", x.balance(), 0);
        Texts.load(x, "member a;section s;trade a s 1;close 100;trade a s 1;close -50;");
        x.leave(0);
        x.setSetting(PatronageBooks.RESERVE, 0);
        Texts.load(x, "member b;section s;");
        Check.same("nothing is left over", x.lastRecapture(0) + x.lastAllocation(0) + x.balance() + x.installmentsLeft(0), 0);
        Check.same("nothing is left over", x.stateOf(0), PatronageBooks.ACTIVE);
        Check.same("nothing is left over", x.getSetting(PatronageBooks.RESERVE), 10);
    }

    private static void error(String text, int code, int position) {
        PatronageBooks x = new PatronageBooks();
        Check.same("load of " + text, Texts.load(x, text), code);
        Check.same("errorPosition of " + text, x.errorPosition(), position);
    }

    private static void loadSyntax() {
        Check.section("promise 3, SYNTAX_ERROR");
        int code = PatronageBooks.SYNTAX_ERROR;
        error(";", code, 0);
        error("-", code, 0);
        error("5;", code, 0);
        error("x;", code, 0);
        error("  members a;", code, 2);
        error("Member a;", code, 0);
        error("member a", code, 8);
        error("member a  ", code, 10);
        error("member", code, 6);
        error("member ;", code, 7);
        error("member a b;", code, 9);
        error("member a consent consent;", code, 17);
        error("member a;;", code, 9);
        error("member1;", code, 6);
        error("member\ta;", code, 6);
        error("member \u00e9;", code, 7);
        error("member a.", code, 8);
        error("member abcdefg;", code, 7);
        error("member consent;", code, 7);
        error("section s consent;", code, 10);
        String[] words = {"member", "trade", "close", "set", "cash", "years", "keep", "policy", "section", "reserve"};
        for (String word : words) {
            error("member " + word + ";", code, 7);
            error("section " + word + ";", code, 8);
            error("trade " + word + " s 1;", code, 6);
            error("member a;trade a " + word + " 1;", code, 17);
        }
        String[] nearly = {"bember a", "bection a", "brade a s 1", "blose", "bet cash 30", "set bash 30", "set beserve 9"};
        for (String statement : nearly) {
            error(statement + ";", code, statement.startsWith("set") ? 4 : 0);
        }
        error("member a bonsent;", code, 9);
        String[] allowed = {"bember", "brade", "blose", "bet", "bash", "bears", "beep", "bolicy", "membes", "se", "sett"};
        for (String name : allowed) {
            Check.same(name, Texts.books("member " + name + ";").memberNamed(Texts.name(name)), 0);
        }
        error("member a;section s;trade a s;", code, 28);
        error("member a;section s;trade a s -1;", code, 29);
        error("member a;section s;trade a s 1 1;", code, 31);
        error("member a;section s;trade a 5 1;", code, 27);
        error("section s;close;", code, 15);
        error("section s;close 1 2;", code, 18);
        error("section s;close - - 2;", code, 18);
        error("section s;close 2 -;", code, 18);
        error("section s;section t;close 2;", code, 27);
        error("close 0;", code, 6);
        error("close", code, 5);
        error("set;", code, 3);
        error("set cost 5;", code, 4);
        error("set cash;", code, 8);
        error("set cash -30;", code, 9);
        error("set cash 30 30;", code, 12);
        error("set cash 30", code, 11);
        error("set cash 30;set", code, 15);
        // The text ends where the length says, not where the buffer does.
        PatronageBooks x = new PatronageBooks();
        Texts.feed(x, "member a;");
        Check.same("cut short", x.load(8), code);
        Check.same("cut short", x.errorPosition(), 8);
    }

    private static void loadRange() {
        Check.section("promise 3, RANGE_ERROR");
        int code = PatronageBooks.RANGE_ERROR;
        String[] words = {"cash", "reserve", "years", "keep", "policy"};
        int[] least = {20, 0, 1, 0, 0};
        int[] most = {100, 50, 10, 20, 2};
        for (int s = 0; s < 5; s++) {
            String start = "set " + words[s] + " ";
            Check.same(start + least[s], Texts.books(start + least[s] + ";").getSetting(s), least[s]);
            Check.same(start + most[s], Texts.books(start + most[s] + ";").getSetting(s), most[s]);
            error(start + (most[s] + 1) + ";", code, start.length());
            if (least[s] > 0) {
                error(start + (least[s] - 1) + ";", code, start.length());
            }
        }
        String start = "member a;section s;trade a s ";
        error(start + "0;", code, 29);
        error(start + "100001;", code, 29);
        error(start + "4294967297;", code, 29);
        error(start + "18446744073709551617;", code, 29);
        error(start + "100000000000000000000000000000000000000001;", code, 29);
        Check.same("zeros", Texts.books(start + "00000000000000000000000000100000;").patronage(0, 0), 100000);
        error("section s;close 1000001;", code, 16);
        error("section s;close - 1000001;", code, 18);
        error("section s;close -99999999999999999999;", code, 17);
        Check.same("most", Texts.books("section s;close 1000000;").reserve(), 1000000);
        Check.same("least", Texts.books("section s;close -\n1000000;").reserve(), -1000000);
        Check.same("-0", Texts.books("section s;close -0;").reserve(), 0);
    }

    private static void loadNames() {
        Check.section("promise 3, NAME_ERROR");
        int code = PatronageBooks.NAME_ERROR;
        error("trade a s 1;", code, 6);
        error("member a;section s;trade s a 1;", code, 25);
        error("member a;section s;trade a a 1;", code, 27);
        error("member a;section s;trade a b 0;", code, 27);
        error("member ab;section s;trade a s 1;", code, 26);
        error("member a;trade a s 1;section s;", code, 17);
        Check.same("six letters", Texts.books("member abcdez;section zzzzzz;trade abcdez zzzzzz 7;").patronage(0, 0), 7);
        Check.same("names made of words", Texts.books("member sets;section consen;trade sets consen 8;").patronage(0, 0), 8);
    }

    private static void loadDuplicates() {
        Check.section("promise 3, DUPLICATE_ERROR");
        int code = PatronageBooks.DUPLICATE_ERROR;
        error("member a;member a;", code, 16);
        error("member a;section a;", code, 17);
        error("section a;member a;", code, 17);
        error("section a;section a;", code, 18);
        error("set cash 30;set cash 31;", code, 16);
        error("set cash 30;set keep 4;set cash", code, 27);
        Check.same("all five", Texts.load(new PatronageBooks(),
                "set cash 30;set reserve 5;set years 2;set keep 4;set policy 1;"), 5);
        Check.same("a setting's name that is a name", Texts.load(new PatronageBooks(), "member a;member aa;"), 2);
    }

    private static void loadOrderAndCount() {
        Check.section("promise 3, ORDER_ERROR and COUNT_ERROR");
        error("close;section s;", PatronageBooks.ORDER_ERROR, 6);
        error("close;section", PatronageBooks.ORDER_ERROR, 6);
        String four = "section p;section q;section r;section s;";
        error(four + "section t;", PatronageBooks.COUNT_ERROR, 40);
        error(four + "close 0 0 0 0;section t;", PatronageBooks.ORDER_ERROR, 54);
        Check.same("four", Texts.books(four).departmentCount(), 4);
        String eight = "member a;member b;member c;member d;member e;member f;member g;member h;";
        Check.same("eight", Texts.books(eight).memberCount(), 8);
        error(eight + "member a;", PatronageBooks.COUNT_ERROR, 72);
        Check.same("a member behind close", Texts.books("close;member a;close;").memberCount(), 1);
        String closes = "close;".repeat(24);
        Check.same("24 times", Texts.books(closes).year(), 24);
        error(closes + "close;", PatronageBooks.COUNT_ERROR, 144);
        error(closes + "close x", PatronageBooks.COUNT_ERROR, 144);
        String tens = "member a;section s;" + "trade a s 100000;".repeat(10);
        Check.same("1000000", Texts.books(tens).patronage(0, 0), 1000000);
        error(tens + "trade a s 1;", PatronageBooks.COUNT_ERROR, tens.length() + 10);
        error(tens + "trade a s 100001;", PatronageBooks.RANGE_ERROR, tens.length() + 10);
        Check.same("a new year", Texts.books(tens + "close 0;trade a s 3;").patronage(0, 0), 3);
    }

    private static void loadEffects() {
        Check.section("promise 3, what the text describes");
        PatronageBooks x = Texts.books("member a consent;section s;trade a s 5;close 100;set reserve 50;"
                + "trade a s 5;close 100;set cash 50;trade a s 5;close 100;");
        Check.same("settings count from where they stand", x.reserve(), 10 + 50 + 50);
        Check.same("cash", x.paidTo(0, 0), 22 + 12 + 25);
        Check.same("undoCount", x.undoCount(), 0);
        PatronageBooks y = Texts.books("member\na\nconsent;section s;trade a s 5;trade a s 6;");
        Check.same("trades add up", y.patronage(0, 0), 11);
        Check.same("no space is needed", Texts.load(y, "section s;close-5;"), 2);
        Check.same("no space is needed", y.reserve(), -5);
        Texts.load(y, "section s;close5;");
        Check.same("no space is needed", y.reserve(), 5);
    }

    private static void errorPosition() {
        Check.section("promise 4");
        PatronageBooks x = new PatronageBooks();
        Check.same("none yet", x.errorPosition(), PatronageBooks.NOT_FOUND);
        Texts.load(x, "member a;oops;");
        Check.same("an error", x.errorPosition(), 9);
        x.load(5);
        Check.same("BAD_VALUE leaves it", x.errorPosition(), 9);
        Texts.load(x, "member a;");
        Check.same("no error", x.errorPosition(), PatronageBooks.NOT_FOUND);
        x.load(-1);
        Check.same("BAD_VALUE leaves it", x.errorPosition(), PatronageBooks.NOT_FOUND);
        Texts.load(x, "x");
        Check.same("the first byte", x.errorPosition(), 0);
    }

    private static void counts() {
        Check.section("promises 5 to 8");
        PatronageBooks x = Texts.books(THREE);
        Check.same("memberCount", x.memberCount(), 3);
        x.leave(2);
        Check.same("those that left included", x.memberCount(), 3);
        Check.same("departmentCount", x.departmentCount(), 2);
        Check.same("year", x.year(), 1);
        for (int y = 1; y < 24; y++) {
            Check.same("undoCount", x.undoCount(), Math.min(10, y));
            Check.same("close", x.close(0, 0, 0, 0), y);
            Check.same("year", x.year(), y + 1);
        }
        Check.same("undoCount", x.undoCount(), 10);
        Check.same("FULL", x.close(0, 0, 0, 0), PatronageBooks.FULL);
        Check.same("year", x.year(), 24);
        Check.same("undo", x.undo(), 9);
        Check.same("undoCount", x.undoCount(), 9);
        Check.same("year", x.year(), 23);
    }

    private static void names() {
        Check.section("promises 9 and 10");
        PatronageBooks x = Texts.books("member zz;section a;member abcdef;section az;");
        Check.same("zz", x.memberNamed(26 << 25 | 26 << 20), 0);
        Check.same("abcdef", x.memberNamed(1 << 25 | 2 << 20 | 3 << 15 | 4 << 10 | 5 << 5 | 6), 1);
        Check.same("a", x.departmentNamed(1 << 25), 0);
        Check.same("az", x.departmentNamed(Texts.name("az")), 1);
        Check.same("a is no member", x.memberNamed(1 << 25), PatronageBooks.NOT_FOUND);
        Check.same("zz is no department", x.departmentNamed(Texts.name("zz")), PatronageBooks.NOT_FOUND);
        Check.same("z", x.memberNamed(Texts.name("z")), PatronageBooks.NOT_FOUND);
        Check.same("0", x.memberNamed(0), PatronageBooks.NOT_FOUND);
        Check.same("0", x.departmentNamed(0), PatronageBooks.NOT_FOUND);
        Check.same("higher bits", x.memberNamed(Texts.name("zz") | 1 << 30), PatronageBooks.NOT_FOUND);
        Check.same("higher bits", x.departmentNamed(Texts.name("a") | 1 << 31), PatronageBooks.NOT_FOUND);
        Texts.load(x, "member b;");
        Check.same("after another load", x.memberNamed(Texts.name("abcdef")), PatronageBooks.NOT_FOUND);
        Check.same("after another load", x.departmentNamed(Texts.name("a")), PatronageBooks.NOT_FOUND);
    }

    private static void settings() {
        Check.section("promise 11");
        PatronageBooks x = Texts.books("set cash 40;set reserve 3;set years 7;set keep 9;set policy 2;");
        int[] want = {40, 3, 7, 9, 2};
        for (int s = 0; s < 5; s++) {
            Check.same("getSetting " + s, x.getSetting(s), want[s]);
        }
        int[] bad = {-1, 5, Integer.MIN_VALUE, Integer.MAX_VALUE};
        for (int s : bad) {
            Check.same("getSetting " + s, x.getSetting(s), PatronageBooks.BAD_VALUE);
        }
    }

    private static void consentAndState() {
        Check.section("promises 12 and 13");
        PatronageBooks x = Texts.books(THREE);
        Check.same("ann", x.consents(0), true);
        Check.same("bob", x.consents(1), false);
        Check.same("state", x.stateOf(0), PatronageBooks.ACTIVE);
        x.setSetting(PatronageBooks.YEARS, 2);
        x.leave(0);
        Check.same("state", x.stateOf(0), PatronageBooks.LEAVING);
        x.close(0, 0, 0, 0);
        Check.same("state", x.stateOf(0), PatronageBooks.LEAVING);
        x.close(0, 0, 0, 0);
        Check.same("state", x.stateOf(0), PatronageBooks.GONE);
        Check.same("state", x.stateOf(1), PatronageBooks.ACTIVE);
        int[] bad = {INDEX_LOW, 3, 8, Integer.MIN_VALUE, Integer.MAX_VALUE};
        for (int m : bad) {
            Check.refused("consents " + m, () -> x.consents(m));
            Check.refused("stateOf " + m, () -> x.stateOf(m));
        }
    }

    private static void patronage() {
        Check.section("promises 14 and 15");
        PatronageBooks x = Texts.books("member a;member b;section s;section t;trade a s 5;trade b s 6;trade b t 7;");
        Check.same("a s", x.patronage(0, 0), 5);
        Check.same("b s", x.patronage(1, 0), 6);
        Check.same("a t", x.patronage(0, 1), 0);
        Check.same("b t", x.patronage(1, 1), 7);
        Check.same("s", x.totalPatronage(0), 11);
        Check.same("t", x.totalPatronage(1), 7);
        x.close(1, 1, 0, 0);
        Check.same("a new year", x.patronage(1, 0) + x.totalPatronage(1), 0);
        int[] bad = {-1, 2, 4, Integer.MAX_VALUE, Integer.MIN_VALUE};
        for (int i : bad) {
            Check.refused("patronage " + i + " 0", () -> x.patronage(i, 0));
            Check.refused("patronage 0 " + i, () -> x.patronage(0, i));
            Check.refused("totalPatronage " + i, () -> x.totalPatronage(i));
        }
        PatronageBooks y = Texts.books("member a;");
        Check.refused("no department", () -> y.patronage(0, 0));
    }

    private static void certificates() {
        Check.section("promises 16 and 17");
        PatronageBooks x = Texts.books(THREE);
        Check.same("ann", x.certificate(0, 0), 203);
        Check.same("bob", x.certificate(1, 0), 600);
        Check.same("cy", x.certificate(2, 0), 0);
        Check.same("ann", x.kindOf(0, 0), PatronageBooks.QUALIFIED);
        Check.same("bob", x.kindOf(1, 0), PatronageBooks.NONQUALIFIED);
        Check.same("cy", x.kindOf(2, 0), PatronageBooks.NOT_FOUND);
        int[] bad = {-1, 1, 24, 25, Integer.MAX_VALUE, Integer.MIN_VALUE};
        for (int y : bad) {
            Check.same("certificate of year " + y, x.certificate(0, y), PatronageBooks.BAD_VALUE);
            Check.same("kindOf of year " + y, x.kindOf(2, y), PatronageBooks.BAD_VALUE);
            Check.refused("certificate, the member first", () -> x.certificate(3, y));
            Check.refused("kindOf, the member first", () -> x.kindOf(-1, y));
        }
        x.redeem(10000000);
        Check.same("nothing is left", x.certificate(1, 0), 0);
        Check.same("nothing is left", x.kindOf(1, 0), PatronageBooks.NOT_FOUND);
        x.setConsent(1, true);
        x.undo();
        x.undo();
        x.setConsent(1, true);
        Check.same("earlier certificates keep their kind", x.kindOf(1, 0), PatronageBooks.NONQUALIFIED);
    }

    private static void equities() {
        Check.section("promises 18 to 20");
        PatronageBooks x = Texts.books(THREE);
        x.setConsent(1, true);
        x.trade(1, 0, 10);
        x.trade(0, 1, 5);
        x.close(100, 100, 0, 0);
        // 90 each: 22 in cash and a certificate of 68.
        Check.same("ann", x.equityOf(0), 203 + 68);
        Check.same("bob", x.equityOf(1), 600 + 68);
        Check.same("cy", x.equityOf(2), 0);
        Check.same("bob", x.equityIn(1, PatronageBooks.QUALIFIED), 68);
        Check.same("bob", x.equityIn(1, PatronageBooks.NONQUALIFIED), 600);
        Check.same("ann", x.equityIn(0, PatronageBooks.NONQUALIFIED), 0);
        Check.same("totalEquity", x.totalEquity(), 203 + 68 + 600 + 68);
        int[] bad = {-1, 2, Integer.MAX_VALUE};
        for (int k : bad) {
            Check.same("equityIn kind " + k, x.equityIn(0, k), PatronageBooks.BAD_VALUE);
            Check.refused("equityIn, the member first", () -> x.equityIn(3, k));
        }
        Check.refused("equityOf", () -> x.equityOf(-1));
        Check.refused("equityOf", () -> x.equityOf(3));
        Check.same("totalEquity", new PatronageBooks().totalEquity(), 0);
    }

    private static void reserveAndLosses() {
        Check.section("promise 21");
        PatronageBooks x = Texts.books(THREE);
        // 100 of grain, less the 30 that cy could not bear.
        Check.same("reserve", x.reserve(), 70);
        x.close(99, 0, 0, 0);
        Check.same("nobody has patronage", x.reserve(), 169);
        x.close(0, -1000, 0, 0);
        Check.same("may be negative", x.reserve(), -831);
    }

    private static void payments() {
        Check.section("promise 22");
        PatronageBooks x = Texts.books(THREE);
        Check.same("with allocations", x.paidTo(0, 0), 67);
        Check.same("with allocations", x.paidTo(1, 0), 0);
        x.redeem(803);
        Check.same("by redemption", x.paidTo(0, 1), 203);
        Check.same("by redemption", x.paidTo(1, 1), 600);
        x.undo();
        x.leave(0);
        x.close(0, 0, 0, 0);
        x.close(0, 0, 0, 0);
        Check.same("by installments", x.paidTo(0, 2), 41 + 41);
        Check.same("with allocations", x.paidTo(0, 0), 67);
        Check.same("what 3", x.paidTo(0, 3), PatronageBooks.BAD_VALUE);
        Check.same("what -1", x.paidTo(0, -1), PatronageBooks.BAD_VALUE);
        Check.refused("the member first", () -> x.paidTo(3, 3));
        Check.refused("the member first", () -> x.paidTo(-1, 0));
    }

    private static void latestYear() {
        Check.section("promises 23 and 24");
        PatronageBooks x = Texts.books("member a;member b;section s;section t;");
        Check.same("no year", x.lastAllocation(0) + x.lastRecapture(1), 0);
        x.trade(0, 0, 3);
        x.trade(1, 1, 3);
        x.close(100, -50, 0, 0);
        Check.same("a", x.lastAllocation(0), 90);
        Check.same("b", x.lastAllocation(1), -50);
        Check.same("b has nothing", x.lastRecapture(1), 0);
        x.trade(0, 1, 3);
        x.close(0, -91, 0, 0);
        Check.same("a", x.lastAllocation(0), -91);
        Check.same("a", x.lastRecapture(0), 90);
        Check.same("b", x.lastAllocation(1), 0);
        x.close(5, 5, 0, 0);
        Check.same("the latest year only", x.lastAllocation(0), 0);
        Check.same("the latest year only", x.lastRecapture(0), 0);
        x.undo();
        Check.same("undone", x.lastAllocation(0), -91);
        Check.same("undone", x.lastRecapture(0), 90);
        int[] bad = {-1, 2, 8};
        for (int m : bad) {
            Check.refused("lastAllocation " + m, () -> x.lastAllocation(m));
            Check.refused("lastRecapture " + m, () -> x.lastRecapture(m));
        }
    }

    private static void rates() {
        Check.section("promises 25 and 26");
        PatronageBooks x = Texts.books("member a;member b;section s;section t;section u;");
        Check.same("no year", x.rateOf(0), 0.0);
        Check.same("no year", x.ratePoints(0), 0);
        x.trade(0, 0, 3);
        x.trade(1, 0, 4);
        x.trade(1, 1, 9);
        x.close(100, -50, 77, 0);
        Check.same("s", x.rateOf(0), (double) (90f / 7f));
        Check.same("t", x.rateOf(1), (double) (-50f / 9f));
        Check.same("no patronage", x.rateOf(2), 0.0);
        Check.same("s", x.ratePoints(0), 128571);
        Check.same("t", x.ratePoints(1), -55555);
        Check.same("no patronage", x.ratePoints(2), 0);
        x.trade(0, 0, 1);
        x.close(1000000, 0, 0, 0);
        Check.same("the cast stops at the greatest int", x.ratePoints(0), Integer.MAX_VALUE);
        Check.same("t", x.rateOf(1), 0.0);
        x.undo();
        Check.same("undone", x.ratePoints(0), 128571);
        int[] bad = {-1, 3, 4};
        for (int d : bad) {
            Check.refused("rateOf " + d, () -> x.rateOf(d));
            Check.refused("ratePoints " + d, () -> x.ratePoints(d));
        }
    }

    private static void ages() {
        Check.section("promises 27 and 28");
        PatronageBooks x = Texts.books(SIX);
        // a: 10 of age 2 and 40 of age 1.
        Check.same("a", x.meanAge(0), 60.0 / 50.0);
        Check.same("c", x.meanAge(2), 85.0 / 55.0);
        Check.same("a", x.oldestYear(0), 0);
        x.redeem(60);
        Check.same("a", x.oldestYear(0), 1);
        Check.same("a", x.meanAge(0), 1.0);
        x.redeem(75);
        Check.same("a", x.oldestYear(0), PatronageBooks.NOT_FOUND);
        Check.same("a", x.meanAge(0), Double.NaN);
        Check.refused("meanAge", () -> x.meanAge(3));
        Check.refused("meanAge", () -> x.meanAge(-1));
        Check.refused("oldestYear", () -> x.oldestYear(3));
        Check.refused("oldestYear", () -> x.oldestYear(-1));
    }

    private static void uniform() {
        Check.section("promise 29");
        PatronageBooks x = Texts.books(SIX);
        Check.same("none of the other kind", x.isUniform(0), true);
        x.setConsent(0, true);
        Check.same("consent alone", x.isUniform(0), true);
        x.trade(0, 0, 1);
        x.close(10, 0, 0, 0);
        Check.same("both kinds", x.isUniform(0), false);
        x.redeem(135);
        Check.same("only the new one is left", x.isUniform(0), true);
        x.redeem(1000);
        Check.same("none", x.isUniform(0), true);
        Check.refused("isUniform", () -> x.isUniform(3));
        Check.refused("isUniform", () -> x.isUniform(-1));
    }

    private static void wouldGet() {
        Check.section("promise 30");
        PatronageBooks x = Texts.books("member a consent;member b;member c;section s;section t;"
                + "trade a s 1;trade b s 1;trade c s 1;trade c t 9;");
        // 100 less 10: 30 each; 11 less 1: 4, 3, 3.
        Check.same("a", x.wouldGet(0, 11, 0, 0, 0), 4);
        Check.same("b", x.wouldGet(1, 11, 0, 0, 0), 3);
        Check.same("c", x.wouldGet(2, 100, -40, 0, 0), -10);
        Check.same("c", x.wouldGet(2, -2, 0, 0, 0), 0);
        Check.same("b", x.wouldGet(1, -2, 0, 0, 0), -1);
        Check.same("nothing changes", x.year() + x.undoCount() + x.reserve() + x.lastAllocation(0), 0);
        Check.same("a third result", x.wouldGet(0, 0, 0, 1, 0), PatronageBooks.BAD_RESULT);
        Check.same("too great", x.wouldGet(0, 1000001, 0, 0, 0), PatronageBooks.BAD_RESULT);
        Check.same("too small", x.wouldGet(0, 0, -1000001, 0, 0), PatronageBooks.BAD_RESULT);
        Check.refused("the member first", () -> x.wouldGet(3, 0, 0, 0, 1));
        Check.refused("the member first", () -> x.wouldGet(-1, 0, 0, 0, 0));
        PatronageBooks y = Texts.books("member a;section s;" + "close 0;".repeat(24) + "trade a s 1;");
        Check.same("in the last year", y.wouldGet(0, 100, 0, 0, 0), 90);
        Check.same("in the last year", y.wouldReserve(100, 0, 0, 0), 10);
        Check.same("in the last year", y.topMember(100, 0, 0, 0), 0);
        Check.same("in the last year", y.cashNeeded(100, 0, 0, 0), 0);
        Check.same("in the last year", y.year(), 24);
    }

    private static void topMember() {
        Check.section("promise 31");
        PatronageBooks x = Texts.books("member a;member b;member c;section s;trade b s 5;trade c s 6;");
        Check.same("most", x.topMember(100, 0, 0, 0), 2);
        Check.same("a loss", x.topMember(-100, 0, 0, 0), 0);
        Check.same("ties", x.topMember(0, 0, 0, 0), 0);
        x.trade(1, 0, 1);
        Check.same("ties", x.topMember(100, 0, 0, 0), 1);
        x.trade(0, 0, 7);
        // 7:6:6 of 100 is 36.84, 31.58, 31.58: the second unit goes to b, so c loses least.
        Check.same("all lose", x.topMember(-100, 0, 0, 0), 2);
        Check.same("no such department", x.topMember(0, 1, 0, 0), PatronageBooks.BAD_VALUE);
        PatronageBooks y = Texts.books("section s;");
        Check.same("no members", y.topMember(5, 0, 0, 0), PatronageBooks.NOT_FOUND);
        Check.same("results first", y.topMember(0, 0, 0, 5), PatronageBooks.BAD_VALUE);
    }

    private static void redeemable() {
        Check.section("promise 32");
        PatronageBooks x = Texts.books(SIX);
        Check.same("KEEP 0", x.redeemable(), 135);
        x.setSetting(PatronageBooks.KEEP, 2);
        Check.same("KEEP 2", x.redeemable(), 60);
        x.setSetting(PatronageBooks.KEEP, 3);
        Check.same("KEEP 3", x.redeemable(), 0);
        x.setSetting(PatronageBooks.KEEP, 1);
        x.leave(1);
        Check.same("active members alone", x.redeemable(), 105);
        Check.same("none", new PatronageBooks().redeemable(), 0);
    }

    private static void wouldRedeem() {
        Check.section("promise 33");
        PatronageBooks x = Texts.books(SIX);
        Check.same("a", x.wouldRedeem(0, 60), 10);
        Check.same("a", x.wouldRedeem(0, 10000000), 50);
        // 7 of 10:20:30 is 1.17, 2.33, 3.5.
        Check.same("c", x.wouldRedeem(2, 7), 4);
        Check.same("b", x.wouldRedeem(1, 7), 2);
        Check.same("nothing changes", x.totalEquity() + x.undoCount(), 135);
        Check.same("budget 0", x.wouldRedeem(0, 0), 0);
        Check.same("budget -1", x.wouldRedeem(0, -1), PatronageBooks.BAD_VALUE);
        Check.same("budget 10000001", x.wouldRedeem(0, 10000001), PatronageBooks.BAD_VALUE);
        Check.refused("the member first", () -> x.wouldRedeem(3, -1));
        Check.refused("the member first", () -> x.wouldRedeem(-1, 5));
    }

    private static void budgetThrough() {
        Check.section("promise 34");
        PatronageBooks x = Texts.books(SIX);
        Check.same("year 0", x.budgetThrough(0), 60);
        Check.same("year 1", x.budgetThrough(1), 135);
        Check.same("year 2", x.budgetThrough(2), PatronageBooks.BAD_VALUE);
        Check.same("year -1", x.budgetThrough(-1), PatronageBooks.BAD_VALUE);
        x.setSetting(PatronageBooks.KEEP, 2);
        Check.same("year 1, too young", x.budgetThrough(1), 60);
        x.leave(2);
        Check.same("active members alone", x.budgetThrough(0), 30);
    }

    private static void installments() {
        Check.section("promises 35 and 36");
        PatronageBooks x = Texts.books(SIX);
        Check.same("active", x.installmentsLeft(0), 0);
        Check.same("active", x.installment(0, 0), PatronageBooks.NOT_FOUND);
        x.setSetting(PatronageBooks.YEARS, 4);
        x.leave(2);
        x.setSetting(PatronageBooks.YEARS, 9);
        Check.same("the setting at that moment", x.installmentsLeft(2), 4);
        // 55 in four: 14, then 41 in three: 14, then 27 in two: 14, then 13.
        int[] due = {14, 14, 14, 13};
        for (int k = 0; k < 4; k++) {
            Check.same("installment " + k, x.installment(2, k), due[k]);
        }
        Check.same("installment 4", x.installment(2, 4), PatronageBooks.NOT_FOUND);
        Check.same("installment -1", x.installment(2, -1), PatronageBooks.NOT_FOUND);
        Check.same("installment", x.installment(2, Integer.MAX_VALUE), PatronageBooks.NOT_FOUND);
        x.close(0, 0, 0, 0);
        Check.same("left", x.installmentsLeft(2), 3);
        Check.same("the earliest year first", x.certificate(2, 0), 16);
        Check.same("the next one", x.installment(2, 2), 13);
        x.close(0, 0, 0, 0);
        x.close(0, 0, 0, 0);
        Check.same("the earliest year first", x.certificate(2, 0), 0);
        Check.same("then the next", x.certificate(2, 1), 13);
        x.close(0, 0, 0, 0);
        Check.same("gone", x.installmentsLeft(2), 0);
        Check.same("gone", x.installment(2, 0), PatronageBooks.NOT_FOUND);
        Check.same("gone", x.paidTo(2, 2), 55);
        Check.refused("installmentsLeft", () -> x.installmentsLeft(3));
        Check.refused("installmentsLeft", () -> x.installmentsLeft(-1));
        Check.refused("installment", () -> x.installment(3, 0));
        Check.refused("installment", () -> x.installment(-1, 0));
        PatronageBooks y = Texts.books("member a;section s;trade a s 1;close 2;");
        Check.same("leave", y.leave(0), 5);
        int[] few = {1, 1, 0, 0, 0};
        for (int k = 0; k < 5; k++) {
            Check.same("installment " + k, y.installment(0, 0), few[k]);
            Check.same("still leaving", y.stateOf(0), PatronageBooks.LEAVING);
            y.close(0, 0, 0, 0);
        }
        Check.same("gone with the last", y.stateOf(0), PatronageBooks.GONE);
    }

    private static void balance() {
        Check.section("promise 37");
        PatronageBooks x = Texts.books(THREE);
        Check.same("certificates", x.balance(), 803);
        x.redeem(100);
        Check.same("redeemed", x.balance(), 703);
        x.trade(1, 1, 1);
        x.close(0, -200, 0, 0);
        Check.same("recaptured", x.balance(), 503);
        x.trade(1, 1, 1);
        x.close(0, -1000000, 0, 0);
        Check.same("what cannot be recaptured does not count", x.balance(), x.equityOf(0));
        x.leave(0);
        x.close(0, 0, 0, 0);
        Check.same("installments", x.balance(), x.totalEquity());
        x.undo();
        Check.same("undone", x.balance(), 178);
        Check.same("none", new PatronageBooks().balance(), 0);
    }

    private static void nextInLine() {
        Check.section("promise 38");
        PatronageBooks x = Texts.books(SIX);
        Check.same("the greatest remainder of the oldest year", x.nextInLine(), 2);
        x.setSetting(PatronageBooks.POLICY, 1);
        Check.same("the greatest of all", x.nextInLine(), 0);
        x.setSetting(PatronageBooks.POLICY, 2);
        Check.same("the smallest, the earlier year", x.nextInLine(), 0);
        x.leave(0);
        Check.same("the smallest of the others", x.nextInLine(), 1);
        x.setSetting(PatronageBooks.KEEP, 5);
        Check.same("none", x.nextInLine(), PatronageBooks.NOT_FOUND);
        Check.same("nothing is paid", x.totalEquity(), 135);
        Check.same("no members", new PatronageBooks().nextInLine(), PatronageBooks.NOT_FOUND);
    }

    private static void yearsUntil() {
        Check.section("promise 39");
        PatronageBooks x = Texts.books(SIX);
        Check.same("KEEP 0", x.yearsUntil(0, 0), 0);
        x.setSetting(PatronageBooks.KEEP, 5);
        Check.same("age 2", x.yearsUntil(0, 0), 3);
        Check.same("age 1", x.yearsUntil(0, 1), 4);
        x.setSetting(PatronageBooks.KEEP, 2);
        Check.same("just old enough", x.yearsUntil(0, 0), 0);
        Check.same("year 2", x.yearsUntil(0, 2), PatronageBooks.BAD_VALUE);
        Check.same("year -1", x.yearsUntil(0, -1), PatronageBooks.BAD_VALUE);
        x.redeem(60);
        Check.same("nothing is left", x.yearsUntil(0, 0), PatronageBooks.NOT_FOUND);
        x.leave(0);
        Check.same("not active", x.yearsUntil(0, 1), PatronageBooks.NOT_FOUND);
        Check.same("not active", x.yearsUntil(0, 2), PatronageBooks.BAD_VALUE);
        Check.refused("the member first", () -> x.yearsUntil(3, 9));
        Check.refused("the member first", () -> x.yearsUntil(-1, 0));
    }

    private static void equityOfYear() {
        Check.section("promise 40");
        PatronageBooks x = Texts.books(SIX);
        Check.same("year 0", x.equityOfYear(0), 60);
        Check.same("year 1", x.equityOfYear(1), 75);
        x.redeem(50);
        x.leave(0);
        Check.same("year 0", x.equityOfYear(0), 10);
        Check.same("all members", x.equityOfYear(1), 75);
        Check.same("year 2", x.equityOfYear(2), PatronageBooks.BAD_VALUE);
        Check.same("year -1", x.equityOfYear(-1), PatronageBooks.BAD_VALUE);
    }

    private static void wouldReserve() {
        Check.section("promise 41");
        PatronageBooks x = Texts.books(SIX + "trade a s 5;");
        Check.same("a tenth is not kept", x.wouldReserve(100, 0, 0, 0), 0);
        x.setSetting(PatronageBooks.RESERVE, 33);
        Check.same("rounded down", x.wouldReserve(101, 0, 0, 0), 33);
        Check.same("a loss that is borne", x.wouldReserve(-50, 0, 0, 0), 0);
        Check.same("one that is not", x.wouldReserve(-51, 0, 0, 0), -1);
        Check.same("nothing changes", x.reserve() + x.equityOf(0), 50);
        Check.same("bad", x.wouldReserve(0, 1, 0, 0), PatronageBooks.BAD_RESULT);
        Check.same("bad", x.wouldReserve(-1000001, 0, 0, 0), PatronageBooks.BAD_RESULT);
    }

    private static void cashNeeded() {
        Check.section("promise 42");
        PatronageBooks x = Texts.books(SIX + "trade a s 5;trade b s 5;");
        Check.same("nobody consents", x.cashNeeded(100, 0, 0, 0), 0);
        x.setConsent(0, true);
        Check.same("25 of 100 of 51", x.cashNeeded(101, 0, 0, 0), 12);
        x.leave(2);
        Check.same("an installment of 11", x.cashNeeded(101, 0, 0, 0), 23);
        Check.same("a loss", x.cashNeeded(-101, 0, 0, 0), 11);
        Check.same("nothing changes", x.paidTo(2, 2) + x.paidTo(0, 0) + x.installmentsLeft(2), 5);
        Check.same("bad", x.cashNeeded(0, 0, 0, 1), PatronageBooks.BAD_VALUE);
        Check.same("bad", x.cashNeeded(1000001, 0, 0, 0), PatronageBooks.BAD_VALUE);
        x.close(101, 0, 0, 0);
        Check.same("what was paid before does not count", x.cashNeeded(0, 0, 0, 0), 11);
    }

    private static void richest() {
        Check.section("promise 43");
        PatronageBooks x = Texts.books(SIX);
        Check.same("c", x.richest(), 2);
        x.redeem(60);
        Check.same("a", x.richest(), 0);
        x.redeem(75);
        Check.same("ties", x.richest(), 0);
        PatronageBooks y = Texts.books("member a;member b;member c;section s;trade b s 5;trade c s 5;close 100;");
        Check.same("ties", y.richest(), 1);
        Check.same("no members", new PatronageBooks().richest(), PatronageBooks.NOT_FOUND);
    }

    private static void membersIn() {
        Check.section("promise 44");
        PatronageBooks x = Texts.books(THREE);
        Check.same("active", x.membersIn(PatronageBooks.ACTIVE), 3);
        x.leave(0);
        x.leave(2);
        Check.same("active", x.membersIn(PatronageBooks.ACTIVE), 1);
        Check.same("leaving", x.membersIn(PatronageBooks.LEAVING), 1);
        Check.same("gone", x.membersIn(PatronageBooks.GONE), 1);
        Check.same("3", x.membersIn(3), PatronageBooks.BAD_VALUE);
        Check.same("-1", x.membersIn(-1), PatronageBooks.BAD_VALUE);
    }

    private static void partOf() {
        Check.section("promise 45");
        PatronageBooks x = Texts.books(SIX);
        Check.same("a", x.partOf(0), 50.0 / 135.0);
        Check.same("b", x.partOf(1), 30.0 / 135.0);
        x.redeem(1000);
        Check.same("none", x.partOf(0), Double.NaN);
        Check.refused("partOf", () -> x.partOf(3));
        Check.refused("partOf", () -> x.partOf(-1));
        Check.refused("partOf", () -> new PatronageBooks().partOf(0));
    }

    private static void redemptionsNeeded() {
        Check.section("promise 46");
        PatronageBooks x = Texts.books(SIX);
        Check.same("all at once", x.redemptionsNeeded(135), 1);
        Check.same("two", x.redemptionsNeeded(134), 2);
        Check.same("45 with 3", x.redemptionsNeeded(3), 45);
        Check.same("none", x.redemptionsNeeded(0), PatronageBooks.NOT_FOUND);
        Check.same("68 would be needed", x.redemptionsNeeded(2), PatronageBooks.NOT_FOUND);
        x.setSetting(PatronageBooks.KEEP, 20);
        // The latest certificates, of year 1, can be redeemed in year 21: with the 20th redemption.
        Check.same("time alone", x.redemptionsNeeded(10000000), 20);
        x.setSetting(PatronageBooks.KEEP, 1);
        Check.same("-1", x.redemptionsNeeded(-1), PatronageBooks.BAD_VALUE);
        Check.same("10000001", x.redemptionsNeeded(10000001), PatronageBooks.BAD_VALUE);
        x.leave(2);
        Check.same("active members alone", x.redemptionsNeeded(80), 1);
        x.redeem(80);
        Check.same("no equity", x.redemptionsNeeded(0), 0);
        Check.same("nothing changes", x.year() * 100 + x.equityOf(2), 255);
        PatronageBooks y = Texts.books("member a;section s;set reserve 0;set keep 1;trade a s 1;close 60;");
        Check.same("just 60", y.redemptionsNeeded(1), 60);
        PatronageBooks z = Texts.books("member a;section s;set reserve 0;set keep 1;trade a s 1;close 61;");
        Check.same("just not", z.redemptionsNeeded(1), PatronageBooks.NOT_FOUND);
    }

    private static void trade() {
        Check.section("promise 47");
        PatronageBooks x = Texts.books(SIX);
        Check.same("trade", x.trade(0, 0, 1), 1);
        Check.same("trade", x.trade(0, 0, 100000), 100001);
        Check.same("undoCount", x.undoCount(), 2);
        Check.same("0", x.trade(0, 0, 0), PatronageBooks.BAD_VALUE);
        Check.same("100001", x.trade(0, 0, 100001), PatronageBooks.BAD_VALUE);
        Check.same("-5", x.trade(0, 0, -5), PatronageBooks.BAD_VALUE);
        Check.same("the indices first", x.trade(3, 0, 0), PatronageBooks.NOT_FOUND);
        Check.same("the indices first", x.trade(-1, 0, 0), PatronageBooks.NOT_FOUND);
        Check.same("the indices first", x.trade(0, 1, 0), PatronageBooks.NOT_FOUND);
        Check.same("the indices first", x.trade(0, -1, 1), PatronageBooks.NOT_FOUND);
        x.leave(1);
        Check.same("leaving", x.trade(1, 0, 1), PatronageBooks.IN_USE);
        Check.same("the amount first", x.trade(1, 0, 0), PatronageBooks.BAD_VALUE);
        for (int n = 0; n < 8; n++) {
            x.trade(0, 0, 100000);
        }
        Check.same("FULL", x.trade(0, 0, 100000), PatronageBooks.FULL);
        Check.same("most", x.trade(0, 0, 99999), 1000000);
        Check.same("FULL", x.trade(0, 0, 1), PatronageBooks.FULL);
        Check.same("nothing changes", x.patronage(0, 0), 1000000);
    }

    private static void close() {
        Check.section("promise 48");
        PatronageBooks x = Texts.books("member a consent;member b;section s;section t;");
        Check.same("out of range", x.close(1000001, 0, 0, 0), PatronageBooks.BAD_VALUE);
        Check.same("out of range", x.close(0, -1000001, 0, 0), PatronageBooks.BAD_VALUE);
        Check.same("no such department", x.close(0, 0, 1, 0), PatronageBooks.BAD_VALUE);
        Check.same("no such department", x.close(0, 0, 0, -1), PatronageBooks.BAD_VALUE);
        Check.same("least int", x.close(Integer.MIN_VALUE, 0, 0, 0), PatronageBooks.BAD_VALUE);
        Check.same("nothing changes", x.year() + x.undoCount(), 0);
        x.trade(0, 0, 7);
        x.setSetting(PatronageBooks.CASH, 100);
        Check.same("close", x.close(1000000, -1000000, 0, 0), 0);
        Check.same("all in cash", x.paidTo(0, 0), 900000);
        Check.same("no certificate", x.certificate(0, 0), 0);
        Check.same("no certificate", x.kindOf(0, 0), PatronageBooks.NOT_FOUND);
        Check.same("reserve", x.reserve(), -900000);
        Check.same("patronage", x.patronage(0, 0), 0);
        Check.same("undoCount", x.undoCount(), 3);
        x.trade(1, 0, 7);
        x.close(100, 0, 0, 0);
        x.trade(1, 0, 7);
        x.close(200, 0, 0, 0);
        x.trade(1, 1, 7);
        x.close(0, -200, 0, 0);
        Check.same("the latest year first", x.certificate(1, 2), 0);
        Check.same("then the earlier ones", x.certificate(1, 1), 70);
        x.trade(0, 0, 1);
        x.trade(0, 1, 1);
        x.setSetting(PatronageBooks.CASH, 25);
        x.close(100, -50, 0, 0);
        Check.same("departments are added up first", x.lastAllocation(0), 40);
        Check.same("departments are added up first", x.certificate(0, 4), 30);
        while (x.year() < 24) {
            x.close(0, 0, 0, 0);
        }
        Check.same("FULL", x.close(0, 0, 0, 0), PatronageBooks.FULL);
        Check.same("the results first", x.close(0, 0, 0, 1), PatronageBooks.BAD_VALUE);
    }

    private static void closeSharing() {
        Check.section("SHARING");
        PatronageBooks x = Texts.books("member a;member b;member c;member d;section s;set reserve 0;"
                + "trade a s 1;trade b s 3;trade d s 3;");
        // 10 in 7: 1.43, 4.29, 0, 4.29: the unit left goes to a.
        int[] ten = {2, 4, 0, 4};
        // 9 in 7: 1.29, 3.86, 0, 3.86: both units go to b and d.
        int[] nine = {1, 4, 0, 4};
        // 2 in 7: 0.29, 0.86, 0, 0.86.
        int[] two = {0, 1, 0, 1};
        // 1 in 7: b and d are equal, b comes first.
        int[] one = {0, 1, 0, 0};
        for (int m = 0; m < 4; m++) {
            Check.same("10 to " + m, x.wouldGet(m, 10, 0, 0, 0), ten[m]);
            Check.same("-10 to " + m, x.wouldGet(m, -10, 0, 0, 0), -ten[m]);
            Check.same("9 to " + m, x.wouldGet(m, 9, 0, 0, 0), nine[m]);
            Check.same("2 to " + m, x.wouldGet(m, 2, 0, 0, 0), two[m]);
            Check.same("1 to " + m, x.wouldGet(m, 1, 0, 0, 0), one[m]);
        }
        String great = "member a;member b;section s;set reserve 0;" + "trade a s 100000;".repeat(10)
                + "trade b s 99999;";
        PatronageBooks y = Texts.books(great);
        // 1000000 * 1000000 does not fit an int.
        Check.same("great", y.wouldGet(0, 1000000, 0, 0, 0), 909092);
        Check.same("great", y.wouldGet(1, 1000000, 0, 0, 0), 90908);
    }

    private static void redeem() {
        Check.section("promise 49");
        PatronageBooks x = Texts.books(SIX);
        Check.same("-1", x.redeem(-1), PatronageBooks.BAD_VALUE);
        Check.same("10000001", x.redeem(10000001), PatronageBooks.BAD_VALUE);
        Check.same("0", x.redeem(0), 0);
        Check.same("nothing changes", x.undoCount(), 0);
        Check.same("30", x.redeem(30), 30);
        Check.same("undoCount", x.undoCount(), 1);
        Check.same("the rest", x.redeem(10000000), 105);
        Check.same("nothing is left", x.redeem(5), 0);
        Check.same("nothing changes", x.undoCount(), 2);
        x.undo();
        Check.same("undone", x.totalEquity(), 105);
        Check.same("undone", x.paidTo(0, 1), 5);
        x.setSetting(PatronageBooks.KEEP, 3);
        Check.same("too young", x.redeem(5), 0);
        x.close(0, 0, 0, 0);
        Check.same("just old enough", x.redeem(1000), 30);
    }

    private static void certificatesAre(String what, PatronageBooks x, int[] due) {
        for (int i = 0; i < 6; i++) {
            Check.same(what + ", member " + i % 3 + " year " + i / 3, x.certificate(i % 3, i / 3), due[i]);
        }
    }

    private static void redeemPolicies() {
        Check.section("REDEMPTION");
        PatronageBooks x = Texts.books(SIX);
        x.redeem(70);
        // Year 0 is 60; 10 of 40:10:25 is 5.33, 1.33, 3.33: the tie goes to a.
        certificatesAre("policy 0", x, new int[] {0, 0, 0, 34, 9, 22});
        x.undo();
        x.redeem(60);
        certificatesAre("policy 0, a whole year", x, new int[] {0, 0, 0, 40, 10, 25});
        x.undo();
        x.redeem(59);
        // 59 of 10:20:30 is 9.83, 19.67, 29.5.
        certificatesAre("policy 0, one less", x, new int[] {0, 0, 1, 40, 10, 25});
        x.undo();
        x.setSetting(PatronageBooks.POLICY, 1);
        x.redeem(70);
        // 70 of 135: 5.19, 10.37, 15.56, 20.74, 5.19, 12.96: 67 and the units to 12.96, 20.74 and 15.56.
        certificatesAre("policy 1", x, new int[] {5, 10, 14, 19, 5, 12});
        x.undo();
        x.redeem(135);
        certificatesAre("policy 1, all", x, new int[] {0, 0, 0, 0, 0, 0});
        x.undo();
        x.setSetting(PatronageBooks.POLICY, 2);
        x.redeem(5);
        certificatesAre("policy 2, the earlier year", x, new int[] {5, 20, 30, 40, 10, 25});
        x.undo();
        x.redeem(70);
        // 10 and 10, 20, 25, then 5 of 30.
        certificatesAre("policy 2", x, new int[] {0, 0, 25, 40, 0, 0});
        x.undo();
        x.leave(1);
        x.redeem(20);
        certificatesAre("policy 2, active members alone", x, new int[] {0, 20, 30, 40, 10, 15});
        PatronageBooks y = Texts.books("member a;member b;section s;set keep 0;set policy 2;trade a s 5;trade b s 5;close 100;");
        y.redeem(46);
        Check.same("policy 2, the lower index", y.certificate(0, 0), 0);
        Check.same("policy 2, the lower index", y.certificate(1, 0), 44);
    }

    private static void leave() {
        Check.section("promise 50");
        PatronageBooks x = Texts.books(THREE);
        Check.same("-1", x.leave(-1), PatronageBooks.NOT_FOUND);
        Check.same("3", x.leave(3), PatronageBooks.NOT_FOUND);
        Check.same("no equity", x.leave(2), 0);
        Check.same("gone at once", x.stateOf(2), PatronageBooks.GONE);
        Check.same("gone already", x.leave(2), PatronageBooks.IN_USE);
        x.trade(0, 1, 1);
        Check.same("patronage", x.leave(0), PatronageBooks.IN_USE);
        x.undo();
        Check.same("leave", x.leave(0), 5);
        Check.same("leaving already", x.leave(0), PatronageBooks.IN_USE);
        Check.same("undoCount", x.undoCount(), 2);
        PatronageBooks y = Texts.books("member a;section s;set reserve 0;trade a s 1;close 1;");
        y.trade(0, 0, 1);
        Check.same("patronage in the first department", y.leave(0), PatronageBooks.IN_USE);
        y.undo();
        Check.same("an equity of 1", y.leave(0), 5);
        Check.same("kind of a certificate of 1", y.kindOf(0, 0), PatronageBooks.NONQUALIFIED);
        Check.same("oldest year of an equity of 1", y.oldestYear(0), 0);
        Check.same("mean age of an equity of 1", y.meanAge(0), 1.0);
        Check.same("part of an equity of 1", y.partOf(0), 1.0);
        x.setSetting(PatronageBooks.YEARS, 1);
        Check.same("one installment", x.leave(1), 1);
        x.close(0, 0, 0, 0);
        Check.same("all of it", x.paidTo(1, 2), 600);
        Check.same("gone", x.stateOf(1), PatronageBooks.GONE);
        Check.same("leaving", x.stateOf(0), PatronageBooks.LEAVING);
    }

    private static void setConsent() {
        Check.section("promise 51");
        PatronageBooks x = Texts.books(THREE);
        Check.same("bob", x.setConsent(1, true), 3);
        Check.same("bob", x.consents(1), true);
        Check.same("again is a change", x.setConsent(1, true), 3);
        Check.same("undoCount", x.undoCount(), 2);
        Check.same("ann", x.setConsent(0, false), 2);
        Check.same("kinds stay", x.kindOf(0, 0), PatronageBooks.QUALIFIED);
        Check.same("kinds stay", x.kindOf(1, 0), PatronageBooks.NONQUALIFIED);
        Check.same("-1", x.setConsent(-1, true), PatronageBooks.NOT_FOUND);
        Check.same("3", x.setConsent(3, false), PatronageBooks.NOT_FOUND);
        x.leave(2);
        Check.same("gone members count, too", x.setConsent(2, true), 2);
        Check.same("undoCount", x.undoCount(), 5);
    }

    private static void setSetting() {
        Check.section("promise 52");
        PatronageBooks x = new PatronageBooks();
        int[] least = {20, 0, 1, 0, 0};
        int[] most = {100, 50, 10, 20, 2};
        int[] initial = {25, 10, 5, 3, 0};
        for (int s = 0; s < 5; s++) {
            Check.same("too small " + s, x.setSetting(s, least[s] - 1), PatronageBooks.BAD_VALUE);
            Check.same("too great " + s, x.setSetting(s, most[s] + 1), PatronageBooks.BAD_VALUE);
            Check.same("nothing changes", x.undoCount(), 2 * s);
            Check.same("least " + s, x.setSetting(s, least[s]), initial[s]);
            Check.same("most " + s, x.setSetting(s, most[s]), least[s]);
            Check.same("getSetting " + s, x.getSetting(s), most[s]);
        }
        Check.same("-1", x.setSetting(-1, 0), PatronageBooks.BAD_VALUE);
        Check.same("5", x.setSetting(5, 0), PatronageBooks.BAD_VALUE);
        x.undo();
        Check.same("the same value", x.setSetting(0, 100), 100);
        Check.same("is a change, too", x.undoCount(), 10);
    }

    private static void undo() {
        Check.section("promise 53");
        PatronageBooks x = Texts.books(THREE);
        Check.same("none", x.undo(), PatronageBooks.NOT_FOUND);
        for (int n = 1; n <= 12; n++) {
            x.setSetting(PatronageBooks.CASH, 30 + n);
        }
        for (int n = 9; n >= 0; n--) {
            Check.same("undo", x.undo(), n);
            Check.same("cash", x.getSetting(PatronageBooks.CASH), 32 + n);
        }
        Check.same("only ten are kept", x.undo(), PatronageBooks.NOT_FOUND);
        Check.same("cash", x.getSetting(PatronageBooks.CASH), 32);
        x.trade(2, 1, 9);
        x.close(500, 500, 0, 0);
        x.undo();
        Check.same("patronage is back", x.patronage(2, 1), 9);
        Check.same("the year is back", x.year(), 1);
        Check.same("the reserve is back", x.reserve(), 70);
        Check.same("the latest year is back", x.lastAllocation(0), 270);
        Check.same("rates are back", x.ratePoints(0), 30000);
        x.undo();
        x.leave(0);
        x.undo();
        Check.same("the state is back", x.stateOf(0) + x.installmentsLeft(0), 0);
        x.setConsent(0, false);
        x.undo();
        Check.same("consent is back", x.consents(0), true);
        x.redeem(700);
        x.undo();
        Check.same("certificates are back", x.certificate(1, 0), 600);
        Check.same("payments are back", x.paidTo(1, 1), 0);
        x.trade(0, 0, 0);
        Check.same("an error is no change", x.undoCount(), 0);
        // Neither feed nor load with an error is a change.
        x.setSetting(PatronageBooks.KEEP, 9);
        x.feed(0x636c6f73, 0x653b2020, 0x20202020, 0x20202020, 0x20202020);
        Check.same("undo", x.undo(), 0);
        Check.same("the buffer stays", x.load(20), 1);
    }
}
