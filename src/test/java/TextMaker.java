import java.util.ArrayList;
import java.util.List;
import java.util.Random;

/** Makes texts for load: good ones, and good ones with a few tokens changed. */
final class TextMaker {
    private static final String[] SPOILS = {"member", "section", "trade", "close", "set", "cash", "reserve", "years",
        "keep", "policy", "consent", ";", "-", "0", "1", "19", "101", "100001", "1000001", "99999999999999999999", "a",
        "b", "zzzzzz", "abcdefg", "s", "t", "A", "\t", "\u00ff", ".", ""};

    private TextMaker() {
    }

    static String good(Random random) {
        return joined(random, tokens(random));
    }

    static String spoiled(Random random) {
        List<String> tokens = tokens(random);
        for (int n = random.nextInt(2); n >= 0; n--) {
            String spoil = SPOILS[random.nextInt(SPOILS.length)];
            int at = random.nextInt(tokens.size());
            if (random.nextBoolean()) {
                tokens.set(at, spoil);
            } else {
                tokens.add(at, spoil);
            }
        }
        return joined(random, tokens);
    }

    private static String joined(Random random, List<String> tokens) {
        StringBuilder text = new StringBuilder();
        String last = ";";
        for (String token : tokens) {
            boolean tight = last.equals(";") || last.equals("-") || token.equals(";") || token.equals("-");
            if (!tight) {
                text.append(random.nextInt(20) == 0 ? "\n" : " ");
            } else if (random.nextInt(30) == 0) {
                text.append(" \n ".substring(random.nextInt(3)));
            }
            text.append(token);
            last = token;
        }
        return text.toString();
    }

    /** The tokens of a good text; a long one may be cut by the buffer. */
    private static List<String> tokens(Random random) {
        List<String> tokens = new ArrayList<>();
        int members = 1 + random.nextInt(random.nextInt(3) == 0 ? 8 : 4);
        int sections = random.nextInt(10) == 0 ? 0 : 1 + random.nextInt(random.nextInt(3) == 0 ? 4 : 2);
        String[] memberNames = {"a", "b", "cc", "aa", "abcdef", "z", "sets", "keeps"};
        String[] sectionNames = {"s", "t", "seed", "ab"};
        for (int m = 0; m < members; m++) {
            add(tokens, "member " + memberNames[m] + (random.nextBoolean() ? " consent ;" : " ;"));
        }
        for (int d = 0; d < sections; d++) {
            add(tokens, "section " + sectionNames[d] + " ;");
        }
        for (int s = 0; s < 5; s++) {
            if (random.nextInt(3) == 0) {
                int least = Oracle.RANGES[s][0];
                int value = s == 3 ? random.nextInt(3) : least + random.nextInt(Oracle.RANGES[s][1] - least + 1);
                add(tokens, "set " + Oracle.SETTINGS[s] + " " + value + " ;");
            }
        }
        for (int n = random.nextInt(25); n > 0; n--) {
            if (sections > 0 && random.nextInt(3) > 0) {
                int amount = random.nextInt(4) == 0 ? 1 + random.nextInt(100000) : 1 + random.nextInt(20);
                add(tokens, "trade " + memberNames[random.nextInt(members)] + " "
                        + sectionNames[random.nextInt(sections)] + " " + amount + " ;");
            } else {
                tokens.add("close");
                for (int d = 0; d < sections; d++) {
                    add(tokens, (random.nextInt(4) == 0 ? "- " : "") + random.nextInt(random.nextInt(4) == 0 ? 1000001 : 300));
                }
                tokens.add(";");
            }
        }
        return tokens;
    }

    private static void add(List<String> tokens, String some) {
        tokens.addAll(List.of(some.split(" ")));
    }
}
