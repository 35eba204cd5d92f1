import java.lang.reflect.InvocationTargetException;
import java.lang.reflect.Method;
import java.lang.reflect.Modifier;
import java.util.ArrayList;
import java.util.Comparator;
import java.util.List;

/**
 * Every method of the face with every value that lies at some limit, in states that lie at some limit: nothing reaches
 * the caller but IndexOutOfBoundsException itself (those of the machine are of classes below it), and that only from
 * methods that the document lets throw.
 */
public final class StormTest {
    private static final int MOST_CALLS = 512;
    private static final int[] VALUES = {Integer.MIN_VALUE, -1000001, -1000000, -1, 0, 1, 2, 3, 4, 5, 7, 8, 9, 10, 20, 23,
        24, 25, 60, 84, 100, 899, 900, 901, 100000, 100001, 1000000, 1000001, 10000000, 10000001, Integer.MAX_VALUE};
    // With five parameters each has to do with fewer values.
    private static final int[] FEW_VALUES = {Integer.MIN_VALUE, -1000000, 0, 8, 1000000, Integer.MAX_VALUE};
    private static final int MANY_PARAMETERS = 3;

    private static final String EIGHT = "member a consent;member b;member c;member d;member e;member f;member g;member h;";
    private static final String FOUR = "section p;section q;section r;section s;";
    private static final String TRADES = "trade a p 9;trade b q 100000;trade h s 1;";

    private interface Start {
        PatronageBooks make();
    }

    private Start start;
    private PatronageBooks x;
    private int calls;
    private int bad;
    private int thrown;

    public static void main(String[] args) throws IllegalAccessException {
        new StormTest().storm("a new object", PatronageBooks::new);
        new StormTest().storm("a full buffer", StormTest::fullBuffer);
        new StormTest().storm("members alone", () -> Texts.books(EIGHT));
        new StormTest().storm("departments alone", () -> Texts.books(FOUR));
        new StormTest().storm("all places taken", () -> Texts.books(EIGHT + FOUR + TRADES));
        for (int policy = 0; policy <= 2; policy++) {
            int p = policy;
            new StormTest().storm("the last year, policy " + p, () -> lastYear(p));
        }
        new StormTest().storm("leaving and gone", StormTest::leaving);
        Check.end();
    }

    private static PatronageBooks fullBuffer() {
        PatronageBooks books = Texts.books(EIGHT + FOUR + TRADES);
        for (int n = 0; n < 45; n++) {
            books.feed(0x636c6f73, 0x65203020, 0x30203020, 0x303b6d65, 0x6d626572);
        }
        return books;
    }

    private static PatronageBooks lastYear(int policy) {
        PatronageBooks books = Texts.books(EIGHT + FOUR + "set reserve 0;set keep 0;set policy " + policy + ";");
        for (int year = 0; year < 24; year++) {
            books.trade(year % 8, year % 4, 1);
            books.trade((year + 1) % 8, year % 4, 2);
            books.close(1000000, 1000000, 1000000, 1000000);
        }
        books.trade(0, 0, 100000);
        return books;
    }

    private static PatronageBooks leaving() {
        PatronageBooks books = Texts.books(EIGHT + FOUR + "set years 10;" + TRADES + "close 1000000 1000000 5 -1000000;");
        for (int m = 0; m < 8; m++) {
            books.leave(m);
        }
        books.close(0, 0, 0, 0);
        return books;
    }

    private void storm(String state, Start begin) throws IllegalAccessException {
        Check.section(state);
        start = begin;
        List<Method> methods = new ArrayList<>();
        for (Method method : PatronageBooks.class.getDeclaredMethods()) {
            if (Modifier.isPublic(method.getModifiers())) {
                methods.add(method);
            }
        }
        methods.sort(Comparator.comparing(Method::getName));
        Check.same("methods", methods.size(), 52);
        for (Method method : methods) {
            bad = 0;
            thrown = 0;
            // A new object for each method: the limits of a state must not be blurred by the method before it.
            renew();
            withAll(method, new Object[method.getParameterCount()], 0);
            Check.same(method.getName() + ": what must not reach the caller", bad, 0);
            boolean mayThrow = method.getExceptionTypes().length > 0;
            Check.same(method.getName() + ": throws", thrown > 0, mayThrow);
        }
    }

    private void renew() {
        x = start.make();
        // Far above what making such a state takes.
        calls = 150;
    }

    private void withAll(Method method, Object[] values, int from) throws IllegalAccessException {
        if (from == values.length) {
            call(method, values);
            return;
        }
        if (method.getParameterTypes()[from] == boolean.class) {
            values[from] = true;
            withAll(method, values, from + 1);
            values[from] = false;
            withAll(method, values, from + 1);
            return;
        }
        for (int value : values.length > MANY_PARAMETERS ? FEW_VALUES : VALUES) {
            values[from] = value;
            withAll(method, values, from + 1);
        }
    }

    private void call(Method method, Object[] values) throws IllegalAccessException {
        if (calls >= MOST_CALLS) {
            renew();
        }
        calls++;
        try {
            method.invoke(x, values);
        } catch (InvocationTargetException e) {
            thrown++;
            if (e.getCause().getClass() != IndexOutOfBoundsException.class || method.getExceptionTypes().length == 0) {
                bad++;
                System.out.println(method.getName() + java.util.Arrays.toString(values) + " throws " + e.getCause());
            }
        }
    }
}
