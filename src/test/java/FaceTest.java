import java.io.IOException;
import java.lang.reflect.Constructor;
import java.lang.reflect.Field;
import java.lang.reflect.Method;
import java.lang.reflect.Modifier;
import java.nio.file.Files;
import java.nio.file.Path;
import java.util.ArrayList;
import java.util.Arrays;
import java.util.Collections;
import java.util.List;
import java.util.Set;
import java.util.TreeSet;

/** The face is the document's, to the letter, and the source keeps to the rules that a glance can tell. */
public final class FaceTest {
    private static final String[] CONSTANTS = {
        "CASH 0", "RESERVE 1", "YEARS 2", "KEEP 3", "POLICY 4", "ACTIVE 0", "LEAVING 1", "GONE 2",
        "QUALIFIED 0", "NONQUALIFIED 1", "NOT_FOUND -1", "BAD_VALUE -2", "FULL -3", "IN_USE -4",
        "BAD_RESULT -100000000", "SYNTAX_ERROR -11", "RANGE_ERROR -12", "NAME_ERROR -13",
        "DUPLICATE_ERROR -14", "ORDER_ERROR -15", "COUNT_ERROR -16"};

    // The result, the name, the parameters (i for int, b for boolean), ! for IndexOutOfBoundsException.
    private static final String[] METHODS = {
        "int feed iiiii", "int load i", "int errorPosition ", "int memberCount ", "int departmentCount ",
        "int year ", "int undoCount ", "int memberNamed i", "int departmentNamed i", "int getSetting i",
        "boolean consents i!", "int stateOf i!", "int patronage ii!", "int totalPatronage i!",
        "int certificate ii!", "int kindOf ii!", "int equityOf i!", "int equityIn ii!", "int totalEquity ",
        "int reserve ", "int paidTo ii!", "int lastAllocation i!", "int lastRecapture i!", "float rateOf i!",
        "int ratePoints i!", "double meanAge i!", "int oldestYear i!", "boolean isUniform i!",
        "int wouldGet iiiii!", "int topMember iiii", "int redeemable ", "int wouldRedeem ii!",
        "int budgetThrough i", "int installmentsLeft i!", "int installment ii!", "int balance ",
        "int nextInLine ", "int yearsUntil ii!", "int equityOfYear i", "int wouldReserve iiii",
        "int cashNeeded iiii", "int richest ", "int membersIn i", "double partOf i!",
        "int redemptionsNeeded i", "int trade iii", "int close iiii", "int redeem i", "int leave i",
        "int setConsent ib", "int setSetting ii", "int undo "};

    public static void main(String[] args) throws IllegalAccessException, IOException {
        Check.section("the face");
        constants();
        constructor();
        methods();
        classesInside();
        sizes();
        source();
        lengths();
        Check.end();
    }

    private static void compare(String what, List<String> got, String[] due) {
        List<String> want = new ArrayList<>(Arrays.asList(due));
        Collections.sort(got);
        Collections.sort(want);
        Check.note(what, got.equals(want), got.toString(), want.toString());
    }

    private static void constants() throws IllegalAccessException {
        List<String> got = new ArrayList<>();
        for (Field field : PatronageBooks.class.getDeclaredFields()) {
            int m = field.getModifiers();
            if (Modifier.isPublic(m) && Modifier.isStatic(m) && Modifier.isFinal(m) && field.getType() == int.class) {
                got.add(field.getName() + " " + field.getInt(null));
            } else if (!Modifier.isPrivate(m)) {
                got.add("not private: " + field.getName());
            }
        }
        compare("constants", got, CONSTANTS);
    }

    private static void constructor() {
        Constructor<?>[] all = PatronageBooks.class.getDeclaredConstructors();
        boolean one = all.length == 1 && all[0].getParameterCount() == 0 && Modifier.isPublic(all[0].getModifiers());
        Check.same("one public constructor", one, true);
        int m = PatronageBooks.class.getModifiers();
        Check.same("public and final", Modifier.isPublic(m) && Modifier.isFinal(m), true);
    }

    private static void methods() {
        List<String> got = new ArrayList<>();
        Set<String> open = new TreeSet<>();
        for (Method method : PatronageBooks.class.getDeclaredMethods()) {
            if (!Modifier.isPrivate(method.getModifiers())) {
                got.add(written(method));
                open.add(method.getName());
            }
        }
        compare("methods", got, METHODS);
        for (Method method : PatronageBooks.class.getDeclaredMethods()) {
            if (Modifier.isPrivate(method.getModifiers())) {
                Check.same("private " + method.getName() + " bears a public name", open.contains(method.getName()), false);
            }
        }
        for (Class<?> inside : PatronageBooks.class.getDeclaredClasses()) {
            for (Method method : inside.getDeclaredMethods()) {
                Check.same(inside.getName() + " " + method.getName() + " bears a public name", open.contains(method.getName()), false);
            }
        }
    }

    private static String written(Method method) {
        StringBuilder text = new StringBuilder();
        if (!Modifier.isPublic(method.getModifiers()) || Modifier.isStatic(method.getModifiers())) {
            text.append("not public or static: ");
        }
        text.append(method.getReturnType().getName()).append(' ').append(method.getName()).append(' ');
        for (Class<?> type : method.getParameterTypes()) {
            text.append(type == int.class ? 'i' : type == boolean.class ? 'b' : '?');
        }
        for (Class<?> type : method.getExceptionTypes()) {
            text.append(type == IndexOutOfBoundsException.class ? '!' : '?');
        }
        return text.toString();
    }

    private static void classesInside() {
        for (Class<?> inside : PatronageBooks.class.getDeclaredClasses()) {
            int m = inside.getModifiers();
            boolean fits = Modifier.isStatic(m) && !Modifier.isPublic(m) && !Modifier.isProtected(m);
            Check.same("static and not open: " + inside.getName(), fits, true);
        }
    }

    /** Rules 5 and 11: static fields are final, few parameters, few classes, few fields. */
    private static void sizes() {
        List<Class<?>> all = new ArrayList<>(Arrays.asList(PatronageBooks.class.getDeclaredClasses()));
        all.add(PatronageBooks.class);
        Check.same("at most twelve classes", all.size() <= 12, true);
        for (Class<?> one : all) {
            int fields = 0;
            for (Field field : one.getDeclaredFields()) {
                int m = field.getModifiers();
                fields += Modifier.isStatic(m) ? 0 : 1;
                Check.same(one.getName() + " " + field.getName() + " is static and not final",
                        Modifier.isStatic(m) && !Modifier.isFinal(m), false);
            }
            Check.same(one.getName() + " has at most twenty fields", fields <= 20, true);
            for (Method method : one.getDeclaredMethods()) {
                Check.same(method.getName() + " has at most seven parameters", method.getParameterCount() <= 7, true);
            }
        }
    }

    private static String program() throws IOException {
        return Files.readString(Path.of("src/main/java/PatronageBooks.java"));
    }

    /** Rule 11: methods stay short; a method ends with the first brace at the depth at which it started. */
    private static void lengths() throws IOException {
        String[] lines = program().split("\n");
        int methods = 0;
        for (int i = 0; i < lines.length; i++) {
            String line = lines[i];
            String margin = line.substring(0, line.length() - line.stripLeading().length());
            boolean starts = (margin.length() == 4 || margin.length() == 8) && line.endsWith(") {")
                    && !line.strip().matches("(if|for|while|switch|\\}).*") || line.endsWith("Exception {");
            if (starts) {
                int end = i;
                while (end < lines.length && !lines[end].equals(margin + "}")) {
                    end++;
                }
                methods++;
                Check.same(line.strip() + " is longer than sixty lines", end - i + 1 > 60, false);
            }
        }
        Check.same("methods were found", methods > 52, true);
    }

    private static void source() throws IOException {
        String text = program();
        String[] never = {"->", "::", "catch", "finally", "synchronized", "assert", "System.out", "package ",
            "Exact(", "Math.sqrt", "Object", "var "};
        for (String word : never) {
            Check.same("the source has " + word, text.contains(word), false);
        }
        for (String line : text.split("\n")) {
            if (line.startsWith("import")) {
                Check.same(line, line.equals("import java.util.Arrays;"), true);
            }
        }
        Check.same("signs 1 to 127 alone", text.chars().allMatch(c -> c >= 1 && c <= 127), true);
    }
}
