import java.math.BigInteger;
import java.util.ArrayList;
import java.util.Comparator;
import java.util.LinkedHashMap;
import java.util.List;
import java.util.Map;
import java.util.TreeMap;
import java.util.regex.Matcher;
import java.util.regex.Pattern;

/** The document once more, written slowly and in another way, to compare the class with. */
final class Oracle {
    static final String[] SETTINGS = {"cash", "reserve", "years", "keep", "policy"};
    static final int[][] RANGES = {{20, 100}, {0, 50}, {1, 10}, {0, 20}, {0, 2}};
    private static final List<String> NO_NAMES =
            List.of("member", "trade", "close", "set", "cash", "years", "keep", "policy");

    static final class Certificate {
        int left;
        boolean qualified;

        Certificate(int left, boolean qualified) {
            this.left = left;
            this.qualified = qualified;
        }
    }

    static final class Person {
        String name;
        boolean consents;
        int state;
        int installments;
        int allocation;
        int recapture;
        int[] paid = new int[3];
        int[] trade = new int[4];
        TreeMap<Integer, Certificate> certificates = new TreeMap<>();

        Person copy() {
            Person p = new Person();
            p.name = name;
            p.consents = consents;
            p.state = state;
            p.installments = installments;
            p.allocation = allocation;
            p.recapture = recapture;
            p.paid = paid.clone();
            p.trade = trade.clone();
            certificates.forEach((y, c) -> p.certificates.put(y, new Certificate(c.left, c.qualified)));
            return p;
        }

        int equity() {
            return certificates.values().stream().mapToInt(c -> c.left).sum();
        }

        int take(int amount, boolean latestFirst) {
            int open = amount;
            for (Certificate c : (latestFirst ? certificates.descendingMap() : certificates).values()) {
                int taken = Math.min(open, c.left);
                c.left -= taken;
                open -= taken;
            }
            return amount - open;
        }

        int nextInstallment() {
            return (int) Math.ceil(equity() / (double) installments - 1e-9);
        }
    }

    static final class State {
        List<Person> people = new ArrayList<>();
        List<String> sections = new ArrayList<>();
        int[] settings = {25, 10, 5, 3, 0};
        int year;
        int reserve;
        int got;
        int[] allocated = new int[4];
        int[] basis = new int[4];

        State copy() {
            State s = new State();
            people.forEach(p -> s.people.add(p.copy()));
            s.sections.addAll(sections);
            s.settings = settings.clone();
            s.year = year;
            s.reserve = reserve;
            s.got = got;
            s.allocated = allocated.clone();
            s.basis = basis.clone();
            return s;
        }

        int indexOf(String name) {
            for (int i = 0; i < people.size(); i++) {
                if (people.get(i).name.equals(name)) {
                    return i;
                }
            }
            return -1;
        }

        void close(int[] results) {
            people.forEach(p -> p.allocation = 0);
            people.forEach(p -> p.recapture = 0);
            for (int d = 0; d < sections.size(); d++) {
                allocate(d, results[d]);
            }
            people.forEach(this::settle);
            for (Person p : people) {
                if (p.state == 1) {
                    int amount = p.nextInstallment();
                    p.take(amount, false);
                    p.paid[2] += amount;
                    got -= amount;
                    p.installments--;
                    p.state = p.installments == 0 ? 2 : 1;
                }
                p.trade = new int[4];
            }
            year++;
        }

        private void allocate(int d, int result) {
            basis[d] = people.stream().mapToInt(p -> p.trade[d]).sum();
            int rest = result;
            if (result > 0) {
                int part = (int) Math.floorDiv((long) result * settings[1], 100L);
                reserve += part;
                rest -= part;
            }
            allocated[d] = 0;
            if (basis[d] == 0) {
                reserve += rest;
            } else {
                List<Integer> weights = new ArrayList<>();
                people.forEach(p -> weights.add(p.trade[d]));
                List<Integer> shares = share(Math.abs(rest), weights);
                for (int i = 0; i < people.size(); i++) {
                    int share = shares.get(i) * Integer.signum(rest);
                    people.get(i).allocation += share;
                    allocated[d] += share;
                }
            }
        }

        private void settle(Person p) {
            int n = p.allocation;
            if (n > 0 && p.consents) {
                int cash = (int) Math.floorDiv((long) n * settings[0], 100L);
                p.paid[0] += cash;
                got += n - cash;
                if (n > cash) {
                    p.certificates.put(year, new Certificate(n - cash, true));
                }
            } else if (n > 0) {
                got += n;
                p.certificates.put(year, new Certificate(n, false));
            } else if (n < 0) {
                p.recapture = p.take(-n, true);
                got -= p.recapture;
                reserve -= -n - p.recapture;
            }
        }

        /** The payments by member and year. */
        Map<List<Integer>, Integer> redemption(int budget) {
            List<List<Integer>> open = new ArrayList<>();
            for (int y = 0; y < 24; y++) {
                for (int m = 0; m < people.size(); m++) {
                    Person p = people.get(m);
                    if (p.state == 0 && year - y >= settings[3] && p.certificates.containsKey(y)
                            && p.certificates.get(y).left > 0) {
                        open.add(List.of(m, y));
                    }
                }
            }
            Map<List<Integer>, Integer> paid = new LinkedHashMap<>();
            open.forEach(c -> paid.put(c, 0));
            int sum = open.stream().mapToInt(this::left).sum();
            if (budget >= sum) {
                open.forEach(c -> paid.put(c, left(c)));
            } else if (settings[4] == 0) {
                int rest = budget;
                for (int y = 0; y < 24; y++) {
                    int of = y;
                    List<List<Integer>> same = open.stream().filter(c -> c.get(1) == of).toList();
                    int due = same.stream().mapToInt(this::left).sum();
                    if (rest < due) {
                        payShares(same, rest, paid);
                        break;
                    }
                    same.forEach(c -> paid.put(c, left(c)));
                    rest -= due;
                }
            } else if (settings[4] == 1) {
                payShares(open, budget, paid);
            } else {
                List<List<Integer>> sorted = new ArrayList<>(open);
                sorted.sort(Comparator.comparingInt(this::left));
                int rest = budget;
                for (List<Integer> c : sorted) {
                    paid.put(c, Math.min(rest, left(c)));
                    rest -= paid.get(c);
                }
            }
            return paid;
        }

        private int left(List<Integer> c) {
            return people.get(c.get(0)).certificates.get(c.get(1)).left;
        }

        private void payShares(List<List<Integer>> some, int amount, Map<List<Integer>, Integer> paid) {
            List<Integer> shares = share(amount, some.stream().map(this::left).toList());
            for (int i = 0; i < some.size(); i++) {
                paid.put(some.get(i), shares.get(i));
            }
        }

        int redeem(int budget) {
            int sum = 0;
            for (Map.Entry<List<Integer>, Integer> e : redemption(budget).entrySet()) {
                Person p = people.get(e.getKey().get(0));
                p.certificates.get(e.getKey().get(1)).left -= e.getValue();
                p.paid[1] += e.getValue();
                got -= e.getValue();
                sum += e.getValue();
            }
            return sum;
        }

        int activeEquity() {
            return people.stream().filter(p -> p.state == 0).mapToInt(Person::equity).sum();
        }

        int redeemableThrough(int latest) {
            int sum = 0;
            for (Map.Entry<List<Integer>, Integer> e : redemption(Integer.MAX_VALUE).entrySet()) {
                sum += e.getKey().get(1) <= latest ? e.getValue() : 0;
            }
            return sum;
        }
    }

    static final class TextError extends Exception {
        private static final long serialVersionUID = 1L;
        final int code;
        final int position;

        TextError(int code, int position) {
            this.code = code;
            this.position = position;
        }
    }

    State now = new State();
    List<State> before = new ArrayList<>();
    StringBuilder buffer = new StringBuilder();
    int errorPosition = -1;

    static List<Integer> share(int amount, List<Integer> weights) {
        BigInteger total = BigInteger.ZERO;
        for (int w : weights) {
            total = total.add(BigInteger.valueOf(w));
        }
        List<Integer> shares = new ArrayList<>();
        List<BigInteger> remainders = new ArrayList<>();
        List<Integer> order = new ArrayList<>();
        int open = amount;
        for (int i = 0; i < weights.size(); i++) {
            BigInteger[] parts = BigInteger.valueOf(amount).multiply(BigInteger.valueOf(weights.get(i)))
                    .divideAndRemainder(total);
            shares.add(parts[0].intValueExact());
            remainders.add(parts[1]);
            order.add(i);
            open -= shares.get(i);
        }
        order.sort((i, k) -> remainders.get(k).compareTo(remainders.get(i)));
        for (int i = 0; i < open; i++) {
            shares.set(order.get(i), shares.get(order.get(i)) + 1);
        }
        return shares;
    }

    void keep() {
        keep(now.copy());
    }

    void keep(State earlier) {
        before.add(earlier);
        if (before.size() > 10) {
            before.remove(0);
        }
    }

    int load(int length) {
        if (length < 0 || length > buffer.length()) {
            return -2;
        }
        String text = buffer.substring(0, length);
        buffer.setLength(0);
        try {
            Reading reading = new Reading(text);
            int count = reading.text();
            now = reading.state;
            before.clear();
            errorPosition = -1;
            return count;
        } catch (TextError e) {
            errorPosition = e.position;
            return e.code;
        }
    }

    /** Statement by statement over a list of all tokens. */
    static final class Reading {
        final State state = new State();
        final List<String> tokens = new ArrayList<>();
        final List<Integer> places = new ArrayList<>();
        final List<String> set = new ArrayList<>();
        int at = 0;
        int closes = 0;

        Reading(String text) {
            Matcher matcher = Pattern.compile("[a-z]+|[0-9]+|[^ \n]", Pattern.DOTALL).matcher(text);
            while (matcher.find()) {
                tokens.add(matcher.group());
                places.add(matcher.start());
            }
            tokens.add("");
            places.add(text.length());
        }

        TextError error(int code) {
            return new TextError(code, places.get(at));
        }

        int text() throws TextError {
            int count = 0;
            while (!tokens.get(at).isEmpty()) {
                statement();
                if (!tokens.get(at).equals(";")) {
                    throw error(-11);
                }
                at++;
                count++;
            }
            return count;
        }

        void statement() throws TextError {
            switch (tokens.get(at)) {
                case "member" -> {
                    if (state.people.size() == 8) {
                        throw error(-16);
                    }
                    at++;
                    Person p = new Person();
                    p.name = fresh();
                    state.people.add(p);
                    if (tokens.get(at).equals("consent")) {
                        p.consents = true;
                        at++;
                    }
                }
                case "section" -> {
                    if (closes > 0) {
                        throw error(-15);
                    }
                    if (state.sections.size() == 4) {
                        throw error(-16);
                    }
                    at++;
                    state.sections.add(fresh());
                }
                case "trade" -> trade();
                case "close" -> close();
                case "set" -> set();
                default -> throw error(-11);
            }
        }

        String name() throws TextError {
            String token = tokens.get(at);
            if (!token.matches("[a-z]{1,6}") || NO_NAMES.contains(token)) {
                throw error(-11);
            }
            return token;
        }

        String fresh() throws TextError {
            String name = name();
            if (state.indexOf(name) >= 0 || state.sections.contains(name)) {
                throw error(-14);
            }
            at++;
            return name;
        }

        int integer(int least, int most) throws TextError {
            if (!tokens.get(at).matches("[0-9]+")) {
                throw error(-11);
            }
            BigInteger value = new BigInteger(tokens.get(at));
            if (value.compareTo(BigInteger.valueOf(least)) < 0 || value.compareTo(BigInteger.valueOf(most)) > 0) {
                throw error(-12);
            }
            return value.intValueExact();
        }

        void trade() throws TextError {
            at++;
            int m = state.indexOf(name());
            if (m < 0) {
                throw error(-13);
            }
            at++;
            int d = state.sections.indexOf(name());
            if (d < 0) {
                throw error(-13);
            }
            at++;
            int amount = integer(1, 100000);
            if (state.people.get(m).trade[d] + amount > 1000000) {
                throw error(-16);
            }
            state.people.get(m).trade[d] += amount;
            at++;
        }

        void close() throws TextError {
            if (closes == 24) {
                throw error(-16);
            }
            closes++;
            at++;
            int[] results = new int[4];
            for (int d = 0; d < state.sections.size(); d++) {
                int sign = 1;
                if (tokens.get(at).equals("-")) {
                    sign = -1;
                    at++;
                }
                results[d] = sign * integer(0, 1000000);
                at++;
            }
            state.close(results);
        }

        void set() throws TextError {
            at++;
            String word = tokens.get(at);
            int s = List.of(SETTINGS).indexOf(word);
            if (s < 0) {
                throw error(-11);
            }
            if (set.contains(word)) {
                throw error(-14);
            }
            set.add(word);
            at++;
            state.settings[s] = integer(RANGES[s][0], RANGES[s][1]);
            at++;
        }
    }
}
