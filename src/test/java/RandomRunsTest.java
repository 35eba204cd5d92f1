import java.util.List;
import java.util.Map;
import java.util.Random;

/** Runs of calls by a fixed seed on the class and on the oracle; after each change every answer is compared. */
public final class RandomRunsTest {
    private static final int RUNS = 400;
    private static final int FULL_RUNS = 6;
    private static final int CHANGES = 60;
    private static final int[] ODD = {Integer.MIN_VALUE, -1000001, -2, -1, 0, 1, 2, 3, 4, 5, 7, 8, 9, 23, 24, 25, 26, 84,
        100000, 100001, 1000000, 1000001, 10000000, 10000001, Integer.MAX_VALUE};

    private final Random random;
    private PatronageBooks x = new PatronageBooks();
    private Oracle o = new Oracle();

    private RandomRunsTest(long seed) {
        random = new Random(seed);
    }

    public static void main(String[] args) {
        for (int run = 1; run <= RUNS; run++) {
            Check.section("run " + run);
            new RandomRunsTest(run).run();
        }
        for (int run = 1; run <= FULL_RUNS; run++) {
            Check.section("full run " + run);
            new RandomRunsTest(-run).fullRun(run % 3);
        }
        Check.end();
    }

    private void run() {
        if (random.nextInt(10) > 0) {
            loadText(TextMaker.good(random));
        }
        compareAll();
        for (int n = 0; n < CHANGES; n++) {
            change();
            compareAll();
        }
    }

    /** As many members, departments, years and certificates as there can be. */
    private void fullRun(int policy) {
        String text = "member a;member b consent;member c;member d;member e consent;member f;member g;member h;"
                + "section p;section q;section r;section s;set keep 1;set policy " + policy + ";";
        feedText(text);
        loadFed(text, text.length());
        while (o.now.year < 24) {
            for (int m = 0; m < 8; m++) {
                int d = random.nextInt(4);
                int amount = some(1, 100000);
                o.keep();
                o.now.people.get(m).trade[d] += amount;
                Check.same("trade", x.trade(m, d, amount), amount);
            }
            int[] r = {some(1000, 1000000), some(1000, 1000000), some(1000, 1000000), some(1000, 1000000)};
            compareWould(r);
            o.keep();
            o.now.close(r);
            Check.same("close", x.close(r[0], r[1], r[2], r[3]), o.now.year - 1);
        }
        compareAll();
        compareWould(new int[] {1000000, -1000000, 5, 0});
        for (int n = 0; n < 20; n++) {
            redeem();
            compareAll();
        }
    }

    private int some(int least, int most) {
        return least + random.nextInt(most - least + 1);
    }

    private int index() {
        return random.nextInt(12) == 0 ? odd() : random.nextInt(Math.max(1, o.now.people.size()));
    }

    private int odd() {
        return ODD[random.nextInt(ODD.length)];
    }

    private int result(int d) {
        if (random.nextInt(60) == 0) {
            return odd();
        }
        if (d >= o.now.sections.size() || random.nextInt(5) == 0) {
            return 0;
        }
        int size = random.nextInt(4) == 0 ? 1000000 : random.nextInt(3) == 0 ? 5000 : 60;
        return some(random.nextInt(3) == 0 ? -size : -size / 4, size);
    }

    private int budget() {
        int all = o.now.redeemableThrough(24);
        int kind = random.nextInt(10);
        return kind == 0 ? odd() : kind == 1 ? all : kind == 2 ? all - 1 : random.nextInt(all + 2);
    }

    private void change() {
        switch (random.nextInt(16)) {
            case 0, 1, 2, 3, 4, 5 -> trade();
            case 6, 7, 8 -> close();
            case 9, 10 -> redeem();
            case 11 -> leave();
            case 12 -> setConsent();
            case 13 -> setSetting();
            case 14 -> undo();
            default -> {
                if (random.nextInt(6) == 0) {
                    loadText(random.nextInt(3) == 0 ? TextMaker.good(random) : TextMaker.spoiled(random));
                }
            }
        }
    }

    private void trade() {
        int m = index();
        int d = random.nextInt(15) == 0 ? odd() : random.nextInt(Math.max(1, o.now.sections.size()));
        int amount = random.nextInt(12) == 0 ? odd() : random.nextInt(3) == 0 ? some(1, 100000) : some(1, 12);
        int want;
        if (m < 0 || m >= o.now.people.size() || d < 0 || d >= o.now.sections.size()) {
            want = -1;
        } else if (amount < 1 || amount > 100000) {
            want = -2;
        } else if (o.now.people.get(m).state != 0) {
            want = -4;
        } else if (o.now.people.get(m).trade[d] + amount > 1000000) {
            want = -3;
        } else {
            o.keep();
            want = o.now.people.get(m).trade[d] += amount;
        }
        Check.same("trade", x.trade(m, d, amount), want);
    }

    private boolean refuses(int[] r) {
        for (int d = 0; d < 4; d++) {
            if (d >= o.now.sections.size() ? r[d] != 0 : r[d] < -1000000 || r[d] > 1000000) {
                return true;
            }
        }
        return false;
    }

    private void close() {
        int[] r = {result(0), result(1), result(2), result(3)};
        int want = refuses(r) ? -2 : o.now.year == 24 ? -3 : o.now.year;
        compareWould(r);
        if (want >= 0) {
            o.keep();
            o.now.close(r);
        }
        Check.same("close", x.close(r[0], r[1], r[2], r[3]), want);
    }

    private void redeem() {
        int budget = budget();
        int want = -2;
        if (budget >= 0 && budget <= 10000000) {
            Oracle.State earlier = o.now.copy();
            want = o.now.redeem(budget);
            if (want > 0) {
                o.keep(earlier);
            }
        }
        Check.same("redeem", x.redeem(budget), want);
    }

    private void leave() {
        int m = index();
        int want;
        if (m < 0 || m >= o.now.people.size()) {
            want = -1;
        } else {
            Oracle.Person p = o.now.people.get(m);
            if (p.state != 0 || p.trade[0] + p.trade[1] + p.trade[2] + p.trade[3] > 0) {
                want = -4;
            } else {
                o.keep();
                p.installments = p.equity() == 0 ? 0 : o.now.settings[2];
                p.state = p.installments == 0 ? 2 : 1;
                want = p.installments;
            }
        }
        Check.same("leave", x.leave(m), want);
    }

    private void setConsent() {
        int m = index();
        boolean value = random.nextBoolean();
        int want = -1;
        if (m >= 0 && m < o.now.people.size()) {
            o.keep();
            o.now.people.get(m).consents = value;
            want = (int) o.now.people.stream().filter(p -> p.consents).count();
        }
        Check.same("setConsent", x.setConsent(m, value), want);
    }

    private void setSetting() {
        int s = random.nextInt(15) == 0 ? odd() : random.nextInt(5);
        int value = s < 0 || s > 4 || random.nextInt(15) == 0 ? odd() : some(Oracle.RANGES[s][0] - 1, Oracle.RANGES[s][1] + 1);
        if (s == 3 && random.nextInt(3) > 0) {
            value = random.nextInt(3);
        }
        int want = -2;
        if (s >= 0 && s < 5 && value >= Oracle.RANGES[s][0] && value <= Oracle.RANGES[s][1]) {
            o.keep();
            want = o.now.settings[s];
            o.now.settings[s] = value;
        }
        Check.same("setSetting", x.setSetting(s, value), want);
    }

    private void undo() {
        for (int n = random.nextInt(4); n >= 0; n--) {
            int want = -1;
            if (!o.before.isEmpty()) {
                o.now = o.before.remove(o.before.size() - 1);
                want = o.before.size();
            }
            Check.same("undo", x.undo(), want);
        }
    }

    private void loadText(String text) {
        feedText(text);
        int length = random.nextInt(20) == 0 ? odd() : random.nextInt(4) == 0 ? o.buffer.length() : Math.min(text.length(), 900);
        loadFed(text, length);
    }

    private void feedText(String text) {
        for (int i = 0; i < text.length(); i += 20) {
            StringBuilder piece = new StringBuilder(text.substring(i, Math.min(text.length(), i + 20)));
            while (piece.length() < 20) {
                piece.append(' ');
            }
            int want = -3;
            if (o.buffer.length() <= 880) {
                o.buffer.append(piece);
                want = o.buffer.length();
            }
            byte[] b = piece.toString().getBytes(java.nio.charset.StandardCharsets.ISO_8859_1);
            Check.same("feed", x.feed(Texts.four(b, 0), Texts.four(b, 4), Texts.four(b, 8), Texts.four(b, 12), Texts.four(b, 16)), want);
        }
    }

    private void loadFed(String text, int length) {
        int want = o.load(length);
        Check.same("load of " + text, x.load(length), want);
        Check.same("errorPosition of " + text, x.errorPosition(), o.errorPosition);
    }

    private void compareAll() {
        Oracle.State s = o.now;
        Check.same("memberCount", x.memberCount(), s.people.size());
        Check.same("departmentCount", x.departmentCount(), s.sections.size());
        Check.same("year", x.year(), s.year);
        Check.same("undoCount", x.undoCount(), o.before.size());
        Check.same("errorPosition", x.errorPosition(), o.errorPosition);
        Check.same("reserve", x.reserve(), s.reserve);
        int total = s.people.stream().mapToInt(Oracle.Person::equity).sum();
        Check.same("totalEquity", x.totalEquity(), total);
        Check.same("balance", x.balance(), s.got);
        Check.same("redeemable", x.redeemable(), s.redeemableThrough(24));
        int next = -1;
        for (Map.Entry<List<Integer>, Integer> e : s.redemption(1).entrySet()) {
            next = e.getValue() > 0 ? e.getKey().get(0) : next;
        }
        Check.same("nextInLine", x.nextInLine(), next);
        int richest = -1;
        for (int m = s.people.size() - 1; m >= 0; m--) {
            richest = richest < 0 || s.people.get(m).equity() >= s.people.get(richest).equity() ? m : richest;
        }
        Check.same("richest", x.richest(), richest);
        for (int k = -1; k <= 5; k++) {
            int state = k;
            Check.same("getSetting", x.getSetting(k), k < 0 || k > 4 ? -2 : s.settings[k]);
            Check.same("membersIn", x.membersIn(k), k < 0 || k > 2 ? -2
                    : s.people.stream().filter(p -> p.state == state).count());
        }
        for (int y = -1; y <= s.year; y++) {
            int of = y;
            boolean closed = y >= 0 && y < s.year;
            Check.same("budgetThrough", x.budgetThrough(y), closed ? s.redeemableThrough(y) : -2);
            Check.same("equityOfYear", x.equityOfYear(y), closed ? s.people.stream()
                    .filter(p -> p.certificates.containsKey(of)).mapToInt(p -> p.certificates.get(of).left).sum() : -2);
        }
        for (int d = 0; d < s.sections.size(); d++) {
            compareSection(d);
        }
        for (int m = 0; m < s.people.size(); m++) {
            compareMember(m, s.people.get(m), total);
        }
        int budget = budget();
        Check.same("redemptionsNeeded " + budget, x.redemptionsNeeded(budget), redemptionsNeeded(budget));
        compareRefusals();
    }

    private void compareSection(int d) {
        Oracle.State s = o.now;
        Check.same("departmentNamed", x.departmentNamed(Texts.name(s.sections.get(d))), d);
        Check.same("memberNamed", x.memberNamed(Texts.name(s.sections.get(d))), -1);
        Check.same("totalPatronage", x.totalPatronage(d), s.people.stream().mapToInt(p -> p.trade[d]).sum());
        float rate = s.basis[d] == 0 ? 0f : (float) s.allocated[d] / (float) s.basis[d];
        Check.same("rateOf", x.rateOf(d), rate);
        Check.same("ratePoints", x.ratePoints(d), (int) (rate * 10000));
    }

    private void compareMember(int m, Oracle.Person p, int total) {
        Oracle.State s = o.now;
        Check.same("memberNamed", x.memberNamed(Texts.name(p.name)), m);
        Check.same("departmentNamed", x.departmentNamed(Texts.name(p.name)), -1);
        Check.same("consents", x.consents(m), p.consents);
        Check.same("stateOf", x.stateOf(m), p.state);
        Check.same("equityOf", x.equityOf(m), p.equity());
        Check.same("lastAllocation", x.lastAllocation(m), p.allocation);
        Check.same("lastRecapture", x.lastRecapture(m), p.recapture);
        Check.same("installmentsLeft", x.installmentsLeft(m), p.installments);
        Check.same("partOf", x.partOf(m), total == 0 ? Double.NaN : (double) p.equity() / total);
        for (int d = 0; d < s.sections.size(); d++) {
            Check.same("patronage", x.patronage(m, d), p.trade[d]);
        }
        for (int what = -1; what <= 3; what++) {
            Check.same("paidTo", x.paidTo(m, what), what < 0 || what > 2 ? -2 : p.paid[what]);
        }
        compareCertificates(m, p);
        Oracle.Person later = p.copy();
        for (int k = 0; k <= 10; k++) {
            int want = later.installments == 0 ? -1 : later.nextInstallment();
            Check.same("installment", x.installment(m, k), want);
            if (want >= 0) {
                later.take(want, false);
                later.installments--;
            }
        }
        int budget = budget();
        int want = -2;
        if (budget >= 0 && budget <= 10000000) {
            want = s.redemption(budget).entrySet().stream().filter(e -> e.getKey().get(0) == m)
                    .mapToInt(Map.Entry::getValue).sum();
        }
        Check.same("wouldRedeem", x.wouldRedeem(m, budget), want);
    }

    private void compareCertificates(int m, Oracle.Person p) {
        Oracle.State s = o.now;
        int[] inKind = new int[2];
        long aged = 0;
        int oldest = -1;
        for (int y = s.year; y >= -1; y--) {
            boolean closed = y >= 0 && y < s.year;
            Oracle.Certificate c = p.certificates.get(y);
            boolean any = c != null && c.left > 0;
            Check.same("certificate", x.certificate(m, y), !closed ? -2 : any ? c.left : 0);
            Check.same("kindOf", x.kindOf(m, y), !closed ? -2 : !any ? -1 : c.qualified ? 0 : 1);
            Check.same("yearsUntil", x.yearsUntil(m, y), !closed ? -2 : !any || p.state != 0 ? -1
                    : s.year - y >= s.settings[3] ? 0 : s.settings[3] - s.year + y);
            if (any) {
                inKind[c.qualified ? 0 : 1] += c.left;
                aged += (long) c.left * (s.year - y);
                oldest = y;
            }
        }
        for (int k = -1; k <= 2; k++) {
            Check.same("equityIn", x.equityIn(m, k), k < 0 || k > 1 ? -2 : inKind[k]);
        }
        Check.same("isUniform", x.isUniform(m), inKind[0] == 0 || inKind[1] == 0);
        Check.same("oldestYear", x.oldestYear(m), oldest);
        Check.same("meanAge", x.meanAge(m), p.equity() == 0 ? Double.NaN : (double) aged / (double) p.equity());
    }

    private int redemptionsNeeded(int budget) {
        if (budget < 0 || budget > 10000000) {
            return -2;
        }
        Oracle.State s = o.now.copy();
        int n = 0;
        while (s.activeEquity() > 0 && n < 61) {
            s.redeem(budget);
            s.year++;
            n++;
        }
        return n > 60 ? -1 : n;
    }

    private void compareWould(int[] r) {
        Oracle.State later = o.now.copy();
        boolean refused = refuses(r);
        if (!refused) {
            later.close(r);
        }
        int top = -1;
        for (int m = 0; m < later.people.size(); m++) {
            int got = later.people.get(m).allocation;
            Check.same("wouldGet", x.wouldGet(m, r[0], r[1], r[2], r[3]), refused ? -100000000 : got);
            top = top < 0 || got > later.people.get(top).allocation ? m : top;
        }
        Check.same("topMember", x.topMember(r[0], r[1], r[2], r[3]), refused ? -2 : top);
        Check.same("wouldReserve", x.wouldReserve(r[0], r[1], r[2], r[3]), refused ? -100000000 : later.reserve);
        int cash = 0;
        for (int m = 0; m < later.people.size(); m++) {
            cash += later.people.get(m).paid[0] - o.now.people.get(m).paid[0];
            cash += later.people.get(m).paid[2] - o.now.people.get(m).paid[2];
        }
        Check.same("cashNeeded", x.cashNeeded(r[0], r[1], r[2], r[3]), refused ? -2 : cash);
    }

    private void compareRefusals() {
        int m = random.nextBoolean() ? o.now.people.size() : odd();
        int k = odd();
        if (m < 0 || m >= o.now.people.size()) {
            Check.refused("consents", () -> x.consents(m));
            Check.refused("stateOf", () -> x.stateOf(m));
            Check.refused("patronage", () -> x.patronage(m, k));
            Check.refused("certificate", () -> x.certificate(m, k));
            Check.refused("kindOf", () -> x.kindOf(m, k));
            Check.refused("equityOf", () -> x.equityOf(m));
            Check.refused("equityIn", () -> x.equityIn(m, k));
            Check.refused("paidTo", () -> x.paidTo(m, k));
            Check.refused("lastAllocation", () -> x.lastAllocation(m));
            Check.refused("lastRecapture", () -> x.lastRecapture(m));
            Check.refused("meanAge", () -> x.meanAge(m));
            Check.refused("oldestYear", () -> x.oldestYear(m));
            Check.refused("isUniform", () -> x.isUniform(m));
            Check.refused("wouldGet", () -> x.wouldGet(m, k, k, k, k));
            Check.refused("wouldRedeem", () -> x.wouldRedeem(m, k));
            Check.refused("installmentsLeft", () -> x.installmentsLeft(m));
            Check.refused("installment", () -> x.installment(m, k));
            Check.refused("yearsUntil", () -> x.yearsUntil(m, k));
            Check.refused("partOf", () -> x.partOf(m));
        }
        int d = random.nextBoolean() ? o.now.sections.size() : odd();
        if (d < 0 || d >= o.now.sections.size()) {
            Check.refused("totalPatronage", () -> x.totalPatronage(d));
            Check.refused("rateOf", () -> x.rateOf(d));
            Check.refused("ratePoints", () -> x.ratePoints(d));
            Check.refused("patronage", () -> x.patronage(0, d));
        }
    }
}
