/** The boundary cases that TEXT FORMAT and the promises 2 to 4 name, each sentence by itself. */
public final class EdgesOfTextsTest {
    private static final int SYNTAX = PatronageBooks.SYNTAX_ERROR;
    private static final int RANGE = PatronageBooks.RANGE_ERROR;
    private static final int NAME = PatronageBooks.NAME_ERROR;
    private static final int DUPLICATE = PatronageBooks.DUPLICATE_ERROR;
    private static final int ORDER = PatronageBooks.ORDER_ERROR;
    private static final int COUNT = PatronageBooks.COUNT_ERROR;

    private static final String[] NO_NAMES = {"member", "trade", "close", "set", "cash", "years", "keep", "policy",
        "section", "reserve", "consent", "abcdefg", "abcdefgh", "5", "0", ";", "-", "#", "A", "\u00e9"};
    private static final String EIGHT = "member a;member b;member c;member d;member e;member f;member g;member h;";
    private static final String FOUR = "section p;section q;section r;section s;";
    private static final String ONE = "member a;section s;";
    // Integers that would be in range if they were cut to 31, 32, 63 or 64 bits.
    private static final String[] GREAT = {"2147483648", "2147483649", "4294967296", "4294967297", "4294967316",
        "9223372036854775808", "9223372036854775809", "18446744073709551616", "18446744073709551617",
        "18446744073709551636", "1" + "0".repeat(100), "9".repeat(200)};

    public static void main(String[] args) {
        bytesAtTheStart();
        bytesBetweenTokens();
        bytesBehindLetters();
        bytesBehindDigits();
        integersOfAnyLength();
        noStatement();
        statementStarts();
        memberStatements();
        sectionStatements();
        tradeStatements();
        closeStatements();
        setStatements();
        endsTooEarly();
        nameLengths();
        namesThatAreNone();
        oneNameSpace();
        amountRange();
        resultRange();
        settingRanges();
        asManyResults();
        nameErrors();
        duplicateNames();
        duplicateSettings();
        orderErrors();
        ninthMember();
        fifthDepartment();
        twentyFifthClose();
        patronageTooGreat();
        severalErrors();
        firstErrorOfTheText();
        feeding();
        feedingTooMuch();
        lengths();
        longestText();
        loadReplaces();
        loadWithAnError();
        nothingToUndo();
        errorPositions();
        Check.end();
    }

    private static String shown(String text) {
        String tail = text.length() > 60 ? "..." + text.substring(text.length() - 60) : text;
        return "\"" + tail.replace("\n", "\\n") + "\"";
    }

    private static void error(String text, int code, int position) {
        PatronageBooks x = new PatronageBooks();
        Check.same(shown(text), Texts.load(x, text), code);
        Check.same("position in " + shown(text), x.errorPosition(), position);
        Check.same("nothing of " + shown(text), x.memberCount() + x.departmentCount() + x.year(), 0);
    }

    private static PatronageBooks good(String text, int statements) {
        PatronageBooks x = new PatronageBooks();
        Check.same(shown(text), Texts.load(x, text), statements);
        Check.same("no position in " + shown(text), x.errorPosition(), PatronageBooks.NOT_FOUND);
        return x;
    }

    /** No one of the tokens is allowed behind the text. */
    private static void notAllowed(String text, String... tokens) {
        for (String token : tokens) {
            error(text + token, SYNTAX, text.length());
            error(text + token + " ;", SYNTAX, text.length());
        }
    }

    private static boolean isLetter(int sign) {
        return sign >= 97 && sign <= 122;
    }

    private static boolean isDigit(int sign) {
        return sign >= 48 && sign <= 57;
    }

    private static boolean isBlank(int sign) {
        return sign == 32 || sign == 10;
    }

    private static void bytesAtTheStart() {
        Check.section("TEXT FORMAT: spaces and newlines; any other character is never allowed");
        for (int sign = 0; sign < 256; sign++) {
            String text = Character.toString(sign);
            if (isBlank(sign)) {
                good(text, 0);
                good(text + "close;", 1);
            } else {
                error(text, SYNTAX, 0);
                error(" " + text + "close;", SYNTAX, 1);
            }
        }
    }

    private static void bytesBetweenTokens() {
        Check.section("TEXT FORMAT: spaces (32) and newlines (10) may stand between tokens");
        for (int sign = 0; sign < 256; sign++) {
            String text = "member" + Character.toString(sign) + "a;";
            if (isBlank(sign)) {
                Check.same(text, good(text, 1).memberNamed(1 << 25), 0);
            } else {
                error(text, SYNTAX, isLetter(sign) ? 0 : 6);
            }
        }
        good("\n \nmember\n\na \nconsent \n;\n\n", 1);
    }

    private static void bytesBehindLetters() {
        Check.section("TEXT FORMAT: words are maximal runs of the letters a to z");
        for (int sign = 0; sign < 256; sign++) {
            String text = "member a" + Character.toString(sign) + ";";
            if (isLetter(sign)) {
                Check.same(text, good(text, 1).memberNamed(1 << 25 | sign - 96 << 20), 0);
            } else if (isBlank(sign)) {
                Check.same(text, good(text, 1).memberNamed(1 << 25), 0);
            } else {
                error(text, SYNTAX, sign == ';' ? 9 : 8);
            }
        }
    }

    private static void bytesBehindDigits() {
        Check.section("TEXT FORMAT: integers are maximal runs of decimal digits");
        for (int sign = 0; sign < 256; sign++) {
            String text = "set keep 1" + Character.toString(sign) + ";";
            if (isDigit(sign)) {
                Check.same(text, good(text, 1).getSetting(PatronageBooks.KEEP), 10 + sign - 48);
            } else if (isBlank(sign)) {
                Check.same(text, good(text, 1).getSetting(PatronageBooks.KEEP), 1);
            } else {
                error(text, SYNTAX, sign == ';' ? 11 : 10);
            }
        }
    }

    private static void integersOfAnyLength() {
        Check.section("TEXT FORMAT: integers are read as unsigned numbers of any length");
        String zeros = "0".repeat(700);
        Check.same("zeros", good(ONE + "trade a s " + zeros + "1;", 3).patronage(0, 0), 1);
        Check.same("zeros", good(ONE + "trade a s " + zeros + "100000;", 3).patronage(0, 0), 100000);
        error(ONE + "trade a s " + zeros + ";", RANGE, 29);
        error(ONE + "trade a s " + zeros + "100001;", RANGE, 29);
        error(ONE + "trade a s 1" + zeros + ";", RANGE, 29);
        for (String great : GREAT) {
            error(ONE + "trade a s " + great + ";", RANGE, 29);
            error("section s;close " + great + ";", RANGE, 16);
            error("section s;close -" + great + ";", RANGE, 17);
            error("set cash " + great + ";", RANGE, 9);
            error("set keep " + great + ";", RANGE, 9);
        }
    }

    private static void noStatement() {
        Check.section("TEXT FORMAT: text = { statement \";\" }");
        good("", 0);
        good(" ", 0);
        good("\n", 0);
        good("close;", 1);
        good("close;close;", 2);
        error(";", SYNTAX, 0);
        error("close;;", SYNTAX, 6);
        error("close close;", SYNTAX, 6);
    }

    private static void statementStarts() {
        Check.section("TEXT FORMAT: statement");
        notAllowed("", "a", "consent", "cash", "reserve", "years", "keep", "policy", "5", "-", "#", "members", "membe",
                "sections", "sectio", "trades", "trad", "closes", "clos", "sets", "se");
        notAllowed("close; ", "a", "5", "-", "#");
    }

    private static void memberStatements() {
        Check.section("TEXT FORMAT: \"member\" name [ \"consent\" ]");
        Check.same("without", good("member a;", 1).consents(0), false);
        Check.same("with", good("member a consent;", 1).consents(0), true);
        notAllowed("member ", NO_NAMES);
        notAllowed("member a ", "a", "b", "member", "consents", "consen", "5", "-", "#");
        notAllowed("member a consent ", "consent", "b", "5", "-", "#");
    }

    private static void sectionStatements() {
        Check.section("TEXT FORMAT: \"section\" name");
        Check.same("section", good("section a;", 1).departmentCount(), 1);
        notAllowed("section ", NO_NAMES);
        notAllowed("section a ", "consent", "a", "b", "section", "5", "-", "#");
    }

    private static void tradeStatements() {
        Check.section("TEXT FORMAT: \"trade\" member section amount");
        Check.same("trade", good(ONE + "trade a s 5;", 3).patronage(0, 0), 5);
        notAllowed(ONE + "trade ", NO_NAMES);
        notAllowed(ONE + "trade a ", NO_NAMES);
        notAllowed(ONE + "trade a s ", "-", "-5", ";", "a", "s", "#");
        notAllowed(ONE + "trade a s 5 ", "5", "-", "a", "#");
    }

    private static void closeStatements() {
        Check.section("TEXT FORMAT: \"close\" { result }, result = [ \"-\" ] integer");
        Check.same("5", good("section s;close 5;", 2).reserve(), 5);
        Check.same("-5", good("section s;close -5;", 2).reserve(), -5);
        Check.same("- 5", good("section s;close - \n 5;", 2).reserve(), -5);
        Check.same("close5", good("section s;close5;", 2).reserve(), 5);
        Check.same("close-5", good("section s;close-5;", 2).reserve(), -5);
        Check.same("5-6", good("section s;section t;close 5-6;", 3).reserve(), -1);
        notAllowed("section s;close ", ";", "a", "s", "#", "close");
        notAllowed("section s;close - ", ";", "-", "a", "#");
        notAllowed("section s;close 5 ", "5", "-", "-5", "a", "#");
    }

    private static void setStatements() {
        Check.section("TEXT FORMAT: \"set\" setting integer");
        notAllowed("set ", "a", "cas", "cashs", "bash", "member", "consent", "section", "trade", "close", "set", "5", ";",
                "-", "#", "year", "polic", "kee", "reserv", "reserves");
        notAllowed("set cash ", "-", "-30", ";", "a", "cash", "#");
        notAllowed("set cash 30 ", "30", "-", "a", "#");
        PatronageBooks x = good("member a;section s;trade a s 1;close 100;set reserve 50;trade a s 1;close 100;", 7);
        Check.same("for the close statements behind it", x.reserve(), 10 + 50);
        Check.same("behind a close statement", x.getSetting(PatronageBooks.RESERVE), 50);
    }

    private static void endsTooEarly() {
        Check.section("SYNTAX_ERROR: if the text ends too early, the position is its length");
        String[] tokens = {"member", "a", "consent", ";", "section", "s", ";", "section", "t", ";", "trade", "a", "s", "7",
            ";", "close", "-", "5", "6", ";", "set", "cash", "30", ";"};
        StringBuilder text = new StringBuilder();
        int statements = 0;
        for (String token : tokens) {
            text.append(token);
            if (token.equals(";")) {
                statements++;
                good(text.toString(), statements);
                good(text + " \n", statements);
            } else {
                error(text.toString(), SYNTAX, text.length());
                error(text + " ", SYNTAX, text.length() + 1);
                error(text + "\n  ", SYNTAX, text.length() + 3);
            }
            text.append(' ');
        }
    }

    private static void nameLengths() {
        Check.section("TEXT FORMAT: a name is a word of 1 to 6 letters");
        String[] names = {"a", "z", "aaaaaa", "zzzzzz", "abcdef", "azazaz"};
        for (String name : names) {
            Check.same(name, good("member " + name + ";", 1).memberNamed(Texts.name(name)), 0);
            PatronageBooks x = good("section " + name + ";member b;trade b " + name + " 5;", 3);
            Check.same(name, x.departmentNamed(Texts.name(name)), 0);
            Check.same(name, x.patronage(0, 0), 5);
        }
        error("member abcdefg;", SYNTAX, 7);
        error("section aaaaaaa;", SYNTAX, 8);
        error(ONE + "trade aaaaaaa s 5;", SYNTAX, 25);
        error(ONE + "trade a sssssss 5;", SYNTAX, 27);
        error("member " + "a".repeat(800) + ";", SYNTAX, 7);
        // Six letters of a declared name and one more are not that name.
        error("member abcdef;section s;trade abcdefg s 1;", SYNTAX, 30);
    }

    private static void namesThatAreNone() {
        Check.section("TEXT FORMAT: other than member, trade, close, set, cash, years, keep and policy");
        String[] words = {"member", "trade", "close", "set", "cash", "years", "keep", "policy"};
        for (String word : words) {
            error("member " + word + ";", SYNTAX, 7);
            error("section " + word + ";", SYNTAX, 8);
            String shorter = word.substring(0, word.length() - 1);
            Check.same(shorter, good("member " + shorter + ";", 1).memberNamed(Texts.name(shorter)), 0);
            String other = word.substring(0, word.length() - 1) + "q";
            Check.same(other, good("member " + other + ";", 1).memberNamed(Texts.name(other)), 0);
            if (word.length() < 6) {
                String longer = word + "a";
                Check.same(longer, good("section " + longer + ";", 1).departmentNamed(Texts.name(longer)), 0);
            }
        }
    }

    private static void oneNameSpace() {
        Check.section("TEXT FORMAT: members and departments have one name space in common");
        error("member a;section a;", DUPLICATE, 17);
        error("section a;member a;", DUPLICATE, 17);
        good("member a;section b;", 2);
    }

    private static void amountRange() {
        Check.section("TEXT FORMAT: trade adds patronage (1 to 100000)");
        error(ONE + "trade a s 0;", RANGE, 29);
        Check.same("1", good(ONE + "trade a s 1;", 3).patronage(0, 0), 1);
        Check.same("100000", good(ONE + "trade a s 100000;", 3).patronage(0, 0), 100000);
        error(ONE + "trade a s 100001;", RANGE, 29);
        Check.same("adds", good(ONE + "trade a s 1;trade a s 100000;", 4).patronage(0, 0), 100001);
    }

    private static void resultRange() {
        Check.section("TEXT FORMAT: results 0 to 1000000 with or without \"-\"");
        int[] in = {0, 1, 999999, 1000000};
        for (int result : in) {
            Check.same("" + result, good("section s;close " + result + ";", 2).reserve(), result);
            Check.same("-" + result, good("section s;close -" + result + ";", 2).reserve(), -result);
        }
        error("section s;close 1000001;", RANGE, 16);
        error("section s;close -1000001;", RANGE, 17);
        error(FOUR + "close 0 0 0 1000001;", RANGE, 52);
        error(FOUR + "close 0 0 0 -1000001;", RANGE, 53);
        Check.same("four", good(FOUR + "close 1000000 1000000 1000000 1000000;", 5).reserve(), 4000000);
    }

    private static void settingRanges() {
        Check.section("The settings, with their ranges, in a text");
        String[] words = {"cash", "reserve", "years", "keep", "policy"};
        int[] least = {20, 0, 1, 0, 0};
        int[] most = {100, 50, 10, 20, 2};
        int[] initial = {25, 10, 5, 3, 0};
        for (int s = 0; s < 5; s++) {
            String start = "set " + words[s] + " ";
            PatronageBooks x = good(start + least[s] + ";", 1);
            PatronageBooks y = good(start + most[s] + ";", 1);
            for (int other = 0; other < 5; other++) {
                Check.same(start + "least", x.getSetting(other), other == s ? least[s] : initial[other]);
                Check.same(start + "most", y.getSetting(other), other == s ? most[s] : initial[other]);
            }
            error(start + (most[s] + 1) + ";", RANGE, start.length());
            if (least[s] > 0) {
                error(start + (least[s] - 1) + ";", RANGE, start.length());
                error(start + "0;", RANGE, start.length());
            }
        }
    }

    private static void asManyResults() {
        Check.section("TEXT FORMAT: there are as many results as departments declared so far");
        String results = "close";
        for (int departments = 0; departments <= 4; departments++) {
            String text = FOUR.substring(0, 10 * departments);
            good(text + results + ";", departments + 1);
            error(text + results + " 0;", SYNTAX, text.length() + results.length() + 1);
            error(text + results + " -0;", SYNTAX, text.length() + results.length() + 1);
            if (departments > 0) {
                int end = results.length() - 2;
                error(text + results.substring(0, end) + ";", SYNTAX, text.length() + end);
            }
            results = results + " 0";
        }
        PatronageBooks x = good(FOUR + "close 1 20 300 4000;", 5);
        Check.same("all of them", x.reserve(), 4321);
        PatronageBooks y = good("member a;section p;section q;trade a q 1;close 7 -8;", 5);
        Check.same("of the departments 0, 1 and so on", y.reserve() * 100 + y.lastAllocation(0), -108);
    }

    private static void nameErrors() {
        Check.section("NAME_ERROR: a name that is not that of a member or a department, respectively");
        error("trade a s 1;", NAME, 6);
        error(ONE + "trade b s 1;", NAME, 25);
        error(ONE + "trade s s 1;", NAME, 25);
        error(ONE + "trade a t 1;", NAME, 27);
        error(ONE + "trade a a 1;", NAME, 27);
        error(ONE + "trade aa s 1;", NAME, 25);
        error(ONE + "trade a ss 1;", NAME, 27);
        error("member aa;section s;trade a s 1;", NAME, 26);
        error("member a;trade a s 1;section s;", NAME, 17);
        error("section s;trade a s 1;member a;", NAME, 16);
        good(ONE + "trade a s 1;", 3);
        PatronageBooks x = good(EIGHT + FOUR + "trade h s 9;", 13);
        Check.same("the last of both", x.patronage(7, 3), 9);
    }

    private static void duplicateNames() {
        Check.section("DUPLICATE_ERROR: a name that is already declared");
        error("member a;member a;", DUPLICATE, 16);
        error("section a;section a;", DUPLICATE, 18);
        error("member a consent;member b;member a consent;", DUPLICATE, 33);
        error("member abcdef;member abcdef;", DUPLICATE, 21);
        good("member abcdef;member abcdeg;member abcde;section a;", 4);
        error("member a;close;member a;", DUPLICATE, 22);
        error("member h;" + FOUR + "member s;", DUPLICATE, 56);
        error(FOUR.substring(0, 30) + "section p;", DUPLICATE, 38);
    }

    private static void duplicateSettings() {
        Check.section("DUPLICATE_ERROR: the name of a setting that was already given");
        String[] settings = {"cash 30", "reserve 5", "years 2", "keep 4", "policy 1"};
        StringBuilder all = new StringBuilder();
        for (String setting : settings) {
            error("set " + setting + ";set " + setting + ";", DUPLICATE, setting.length() + 9);
            all.append("set ").append(setting).append(';');
        }
        good(all.toString(), 5);
        for (String setting : settings) {
            error(all + "set " + setting + ";", DUPLICATE, all.length() + 4);
        }
        // The initial value given once is given, too.
        error("set cash 25;close;set cash 25;", DUPLICATE, 22);
        PatronageBooks x = good("set cash 30;", 1);
        Check.same("given in a text before", Texts.load(x, "set cash 31;"), 1);
        Check.same("refused", Texts.load(x, "set keep 4;oops"), SYNTAX);
        Check.same("given in a text with an error", Texts.load(x, "set keep 4;"), 1);
    }

    private static void orderErrors() {
        Check.section("ORDER_ERROR: the word section behind a close statement");
        error("close;section s;", ORDER, 6);
        error("close;section", ORDER, 6);
        error("section p;close 0;section s;", ORDER, 18);
        error("close;member a;section s;", ORDER, 15);
        error("section p;close 0 section s;", SYNTAX, 18);
        good("section s;close 0;", 2);
        PatronageBooks x = good("close;member a;", 2);
        Check.same("a member may be declared there", x.memberCount(), 1);
        Check.same("without a certificate", x.certificate(0, 0), 0);
        Check.same("without an allocation", x.lastAllocation(0), 0);
        Check.same("a new text starts anew", Texts.load(x, "section s;close 0;"), 2);
    }

    private static void ninthMember() {
        Check.section("COUNT_ERROR: the word member of a ninth member");
        PatronageBooks x = good(EIGHT, 8);
        Check.same("eight", x.memberCount(), 8);
        Check.same("the eighth", x.memberNamed(Texts.name("h")), 7);
        error(EIGHT + "member i;", COUNT, 72);
        error(EIGHT + "member", COUNT, 72);
        error(EIGHT + "close;member i;", COUNT, 78);
        good(EIGHT + "section i;", 9);
    }

    private static void fifthDepartment() {
        Check.section("COUNT_ERROR: section of a fifth department");
        PatronageBooks x = good(FOUR, 4);
        Check.same("four", x.departmentCount(), 4);
        Check.same("the fourth", x.departmentNamed(Texts.name("s")), 3);
        error(FOUR + "section t;", COUNT, 40);
        error(FOUR + "section", COUNT, 40);
        good(FOUR + "member t;", 5);
    }

    private static void twentyFifthClose() {
        Check.section("COUNT_ERROR: close of a 25th close statement");
        String closes = "close;".repeat(24);
        PatronageBooks x = good(closes, 24);
        Check.same("24", x.year(), 24);
        error(closes + "close;", COUNT, 144);
        error(closes + "close", COUNT, 144);
        error(closes + "close 5;", COUNT, 144);
        good(closes + "member a;", 25);
        Check.same("a new text starts anew", Texts.load(x, "close;"), 1);
        Check.same("a new text starts anew", x.year(), 1);
    }

    private static void patronageTooGreat() {
        Check.section("COUNT_ERROR: the amount of a trade with which the patronage would be greater than 1000000");
        String ten = "member a;member b;section s;section t;" + "trade a s 100000;".repeat(9);
        Check.same("1000000", good(ten + "trade a s 100000;", 14).patronage(0, 0), 1000000);
        error(ten + "trade a s 1;trade a s 100000;", COUNT, ten.length() + 22);
        Check.same("1000000", good(ten + "trade a s 99999;trade a s 1;", 15).patronage(0, 0), 1000000);
        error(ten + "trade a s 100000;trade a s 1;", COUNT, ten.length() + 27);
        String full = ten + "trade a s 100000;";
        Check.same("another member", good(full + "trade b s 1;", 15).patronage(1, 0), 1);
        Check.same("another department", good(full + "trade a t 1;", 15).patronage(0, 1), 1);
        Check.same("another year", good(full + "close 0 0;trade a s 1;", 16).patronage(0, 0), 1);
    }

    private static void severalErrors() {
        Check.section("TEXT FORMAT: if several errors apply to one token, the one listed first is reported");
        String full = ONE + "trade a s 100000;".repeat(10);
        error(full + "trade a s 100001;", RANGE, full.length() + 10);
        error(full + "trade a s 4294967297;", RANGE, full.length() + 10);
        error(full + "trade a s 0;", RANGE, full.length() + 10);
        error(FOUR + "close 0 0 0 0;section t;", ORDER, 54);
        error(FOUR + "section section;", COUNT, 40);
        error(EIGHT + "section member;", SYNTAX, 80);
        error(EIGHT + "member a consent member;", COUNT, 72);
        error("close;".repeat(24) + "set close;", SYNTAX, 148);
        error(ONE + "trade cash s 1;", SYNTAX, 25);
        error(ONE + "trade a policy 1;", SYNTAX, 27);
    }

    private static void firstErrorOfTheText() {
        Check.section("TEXT FORMAT: the first error in the order of the text is reported");
        error("member a;member a;oops;", DUPLICATE, 16);
        error("member a;oops;member a;", SYNTAX, 9);
        error(ONE + "trade b t 0;", NAME, 25);
        error(ONE + "trade a t 0;", NAME, 27);
        error(ONE + "trade a s 0 0;", RANGE, 29);
        error("set cash 19;set cash 19;", RANGE, 9);
        error("set cash 30;set cash 19;", DUPLICATE, 16);
        error("section s;close 1000001 5;", RANGE, 16);
        error("section s;close 1000001", RANGE, 16);
        error("close;section close;", ORDER, 6);
        error(EIGHT + "member a;", COUNT, 72);
        error("member a", SYNTAX, 8);
    }

    private static void feeding() {
        Check.section("promise 2: the four bytes of each parameter, most significant byte first");
        PatronageBooks x = new PatronageBooks();
        Check.same("20 bytes", x.feed(0x6d656d62, 0x65722061, 0x3b736574, 0x20706f6c, 0x69637920), 20);
        Check.same("40 bytes", x.feed(0x323b6d65, 0x6d626572, 0x207a3b63, 0x6c6f7365, 0x3b202020), 40);
        Check.same("\"member a;set policy 2;member z;close;   \"", x.load(40), 4);
        Check.same("policy", x.getSetting(PatronageBooks.POLICY), 2);
        Check.same("z", x.memberNamed(26 << 25), 1);
        Check.same("year", x.year(), 1);
        // A byte above 127 makes the parameter negative and is still one byte.
        for (int place = 0; place < 20; place++) {
            int[] words = {0x20202020, 0x20202020, 0x20202020, 0x20202020, 0x20202020};
            words[place / 4] |= 255 << 24 - place % 4 * 8;
            Check.same("feed", x.feed(words[0], words[1], words[2], words[3], words[4]), 20);
            Check.same("byte " + place, x.load(20), SYNTAX);
            Check.same("byte " + place, x.errorPosition(), place);
        }
    }

    private static void feedingTooMuch() {
        Check.section("promise 2: FULL if the buffer would hold more than 900 bytes (nothing is appended then)");
        PatronageBooks x = new PatronageBooks();
        Texts.feed(x, "close;");
        for (int n = 2; n <= 45; n++) {
            Check.same("feed " + n, x.feed(0x20202020, 0x20202020, 0x20202020, 0x20202020, 0x20202020), 20 * n);
        }
        State before = State.of(x);
        for (int n = 46; n <= 48; n++) {
            Check.same("feed " + n, x.feed(0x58585858, 0x58585858, 0x58585858, 0x58585858, 0x58585858), PatronageBooks.FULL);
        }
        State.same("nothing changes", State.of(x), before);
        Check.same("nothing is appended", x.load(901), PatronageBooks.BAD_VALUE);
        Check.same("nothing is appended", x.load(900), 1);
        Check.same("empty again", x.feed(0x20202020, 0x20202020, 0x20202020, 0x20202020, 0x20202020), 20);
    }

    private static void lengths() {
        Check.section("promise 3: length from 0 to the number of bytes; BAD_VALUE: the buffer is unchanged");
        PatronageBooks x = good("member a;", 1);
        State before = State.of(x);
        Check.same("1 of none", x.load(1), PatronageBooks.BAD_VALUE);
        Texts.feed(x, "member b;section c;x");
        int[] bad = {-1, 21, 40, 900, 901, Integer.MIN_VALUE, Integer.MAX_VALUE};
        for (int length : bad) {
            Check.same("length " + length, x.load(length), PatronageBooks.BAD_VALUE);
        }
        State.same("nothing changes", State.of(x), before);
        Check.same("the buffer is unchanged", x.feed(0x3b636c6f, 0x73653b20, 0x20202020, 0x20202020, 0x20202020), 40);
        Check.same("41", x.load(41), PatronageBooks.BAD_VALUE);
        Check.same("the x is read", x.load(40), SYNTAX);
        Check.same("the x is read", x.errorPosition(), 19);
        Texts.feed(x, "member b;section c;x");
        Check.same("19", x.load(19), 2);
        Check.same("19", x.departmentCount(), 1);
        Check.same("the x is thrown away", x.load(1), PatronageBooks.BAD_VALUE);
        Texts.feed(x, "member b;section c;x");
        Check.same("0", x.load(0), 0);
        Check.same("0", x.memberCount() + x.departmentCount(), 0);
        Check.same("all is thrown away", x.load(1), PatronageBooks.BAD_VALUE);
        Check.same("all is thrown away", x.load(0), 0);
        Texts.feed(x, "member b;section c;x");
        Check.same("20", x.load(20), SYNTAX);
        Check.same("20", x.errorPosition(), 19);
    }

    private static void longestText() {
        Check.section("promise 3: the first length bytes, 900 at most");
        String blanks = " ".repeat(894);
        Check.same("900 bytes", good(blanks + "close;", 1).year(), 1);
        error(blanks + "close ", SYNTAX, 900);
        error(blanks + "close-", SYNTAX, 899);
        error(" ".repeat(899) + "x", SYNTAX, 899);
        error(" ".repeat(893) + "close;;", SYNTAX, 899);
        Check.same("150 statements", Texts.load(new PatronageBooks(), "close;".repeat(24) + " ".repeat(756)), 24);
        PatronageBooks x = new PatronageBooks();
        Texts.feed(x, "close;".repeat(150));
        Check.same("cut behind the 24th", x.load(144), 24);
        Texts.feed(x, "close;".repeat(150));
        Check.same("cut behind the 25th", x.load(150), COUNT);
        Texts.feed(x, "close;".repeat(150));
        Check.same("cut before a semicolon", x.load(143), SYNTAX);
        Check.same("cut before a semicolon", x.errorPosition(), 143);
        Texts.feed(x, "close;".repeat(150));
        Check.same("cut within a word", x.load(4), SYNTAX);
        Check.same("cut within a word", x.errorPosition(), 0);
    }

    private static final String MUCH = "member a consent;member b;section s;section t;set keep 0;set reserve 20;"
            + "trade a s 5;trade b s 5;close 101 -9;trade b t 1;trade a s 1;close 10 -20;trade a t 3;";

    private static PatronageBooks much() {
        PatronageBooks x = good(MUCH, 13);
        x.setSetting(PatronageBooks.POLICY, 2);
        x.redeem(7);
        x.leave(1);
        x.setConsent(1, true);
        return x;
    }

    private static void loadReplaces() {
        Check.section("promise 3: replaces the cooperative by the one described");
        String[] texts = {"", "member q;", "section q;", "member q;member r;section s;section t;", "member q;section r;close 0;",
            "member q;member r;section s;section t;close 0 0;close 0 0;"};
        for (String text : texts) {
            replaced(much(), text);
            // With member 1 still active.
            replaced(good(MUCH, 13), text);
        }
    }

    private static void replaced(PatronageBooks x, String text) {
        // Questions about the old cooperative must not be seen in the new one either.
        State.of(x);
        Check.same(shown(text), Texts.load(x, text) >= 0, true);
        PatronageBooks fresh = new PatronageBooks();
        Texts.load(fresh, text);
        State.same("as a new object's: " + shown(text), State.of(x), State.of(fresh));
        Check.same("undoCount", x.undoCount(), 0);
    }

    private static void loadWithAnError() {
        Check.section("promise 3: if the text has an error, nothing but the buffer changes: it is emptied all the same");
        String[] texts = {"oops;", "member z;set cash 19;", "section z;trade z z 1;", "member z;member z;",
            "section z;close 5;section y;", EIGHT + "member z;"};
        int[] codes = {SYNTAX, RANGE, NAME, DUPLICATE, ORDER, COUNT};
        for (int i = 0; i < texts.length; i++) {
            PatronageBooks x = much();
            // An error of the same place before, so that errorPosition is the same then.
            Texts.load(x, texts[i]);
            State before = State.of(x);
            Check.same(shown(texts[i]), Texts.load(x, texts[i]), codes[i]);
            State.same("nothing changes: " + shown(texts[i]), State.of(x), before);
            Check.same("the buffer is emptied", x.load(1), PatronageBooks.BAD_VALUE);
            Check.same("undoCount", x.undoCount(), 4);
            Check.same("undo", x.undo(), 3);
            Check.same("names stay", x.memberNamed(Texts.name("b")), 1);
            Check.same("names stay", x.departmentNamed(Texts.name("t")), 1);
            Check.same("no new name", x.memberNamed(Texts.name("z")), PatronageBooks.NOT_FOUND);
        }
    }

    private static void nothingToUndo() {
        Check.section("promise 3: after a successful load nothing can be undone");
        PatronageBooks x = much();
        Check.same("before", x.undoCount(), 4);
        Check.same("load", Texts.load(x, "member a;"), 1);
        Check.same("undoCount", x.undoCount(), 0);
        Check.same("undo", x.undo(), PatronageBooks.NOT_FOUND);
        x.setConsent(0, true);
        Check.same("undoCount", x.undoCount(), 1);
        Check.same("an empty text", x.load(0), 0);
        Check.same("undoCount", x.undoCount(), 0);
        Check.same("undo", x.undo(), PatronageBooks.NOT_FOUND);
        x.setSetting(PatronageBooks.CASH, 30);
        Check.same("BAD_VALUE is no load", x.load(5), PatronageBooks.BAD_VALUE);
        Check.same("undoCount", x.undoCount(), 1);
    }

    private static void errorPositions() {
        Check.section("promise 4: of the latest load that did not return BAD_VALUE; NOT_FOUND if it had no error");
        PatronageBooks x = new PatronageBooks();
        Check.same("there was none", x.errorPosition(), PatronageBooks.NOT_FOUND);
        x.load(1);
        Check.same("only BAD_VALUE", x.errorPosition(), PatronageBooks.NOT_FOUND);
        Texts.load(x, "oops;");
        Check.same("the first byte", x.errorPosition(), 0);
        x.load(-1);
        Check.same("BAD_VALUE", x.errorPosition(), 0);
        Texts.load(x, "close;oops;");
        Check.same("another one", x.errorPosition(), 6);
        x.load(1);
        Check.same("BAD_VALUE", x.errorPosition(), 6);
        Check.same("a change", x.close(0, 0, 0, 0), 0);
        Check.same("a change", x.errorPosition(), 6);
        Check.same("undo", x.undo(), 0);
        Check.same("undo", x.errorPosition(), 6);
        Check.same("no error", x.load(0), 0);
        Check.same("no error", x.errorPosition(), PatronageBooks.NOT_FOUND);
        x.load(1);
        Check.same("BAD_VALUE", x.errorPosition(), PatronageBooks.NOT_FOUND);
        Texts.load(x, " ".repeat(899) + "x");
        Check.same("the last byte", x.errorPosition(), 899);
        Texts.load(x, " ".repeat(895) + "close");
        Check.same("behind the last byte", x.errorPosition(), 900);
    }
}
