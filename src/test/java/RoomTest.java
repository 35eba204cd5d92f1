import java.lang.management.ManagementFactory;
import java.lang.reflect.Array;
import java.lang.reflect.Field;
import java.lang.reflect.Modifier;
import java.util.ArrayDeque;
import java.util.Collections;
import java.util.Deque;
import java.util.IdentityHashMap;
import java.util.Set;

/** What an object holds and what its calls make: all runs live in one room of 600,000 objects and 7.3 million places. */
public final class RoomTest {
    private static final String FULL = "member a consent;member b;member c;member d;member e;member f;member g;member h;"
            + "section p;section q;section r;section s;set reserve 0;set keep 0;trade a p 9;trade b q 7;close 5 6 7 8;";
    // So that ten changes, each with a copy of all, stay far below the room even for many objects.
    private static final int MOST_OBJECTS = 700;
    private static final int MOST_PLACES = 12000;
    private static final int ROUNDS = 2000;

    private int objects;
    private int places;
    private static long sink = 0;

    public static void main(String[] args) throws IllegalAccessException {
        held();
        made();
        Check.end();
    }

    private static void held() throws IllegalAccessException {
        Check.section("what an object holds");
        PatronageBooks x = Texts.books(FULL);
        changes(x);
        RoomTest early = new RoomTest();
        early.count(x);
        Check.same("objects, " + early.objects + " of " + MOST_OBJECTS, early.objects <= MOST_OBJECTS, true);
        Check.same("places, " + early.places + " of " + MOST_PLACES, early.places <= MOST_PLACES, true);
        for (int n = 0; n < 20; n++) {
            changes(x);
            questions(x);
        }
        Texts.load(x, FULL);
        RoomTest late = new RoomTest();
        late.count(x);
        Check.same("objects do not grow", late.objects, early.objects);
        Check.same("places do not grow", late.places, early.places);
    }

    private void count(Object root) throws IllegalAccessException {
        Set<Object> seen = Collections.newSetFromMap(new IdentityHashMap<>());
        Deque<Object> open = new ArrayDeque<>();
        seen.add(root);
        open.add(root);
        while (!open.isEmpty()) {
            Object one = open.remove();
            objects++;
            if (one.getClass().isArray()) {
                places += Array.getLength(one);
                if (one instanceof Object[] row) {
                    for (Object element : row) {
                        meet(element, seen, open);
                    }
                }
            } else {
                fields(one, seen, open);
            }
        }
    }

    private void fields(Object one, Set<Object> seen, Deque<Object> open) throws IllegalAccessException {
        for (Field field : one.getClass().getDeclaredFields()) {
            if (!Modifier.isStatic(field.getModifiers())) {
                places++;
                field.setAccessible(true);
                if (!field.getType().isPrimitive()) {
                    meet(field.get(one), seen, open);
                }
            }
        }
    }

    private static void meet(Object value, Set<Object> seen, Deque<Object> open) {
        if (value != null && seen.add(value)) {
            open.add(value);
        }
    }

    /** More changes than are kept. */
    private static void changes(PatronageBooks x) {
        for (int n = 0; n < 3; n++) {
            sink += x.trade(n, n, 5) + x.setConsent(n, true) + x.setSetting(PatronageBooks.CASH, 50 + n);
            sink += x.close(9, 9, 9, 9) + x.redeem(7) + x.leave(7 - n);
        }
        sink += x.undo() + x.undo();
    }

    private static void questions(PatronageBooks x) {
        sink += x.errorPosition() + x.memberCount() + x.departmentCount() + x.year() + x.undoCount();
        sink += x.memberNamed(1 << 25) + x.departmentNamed(1 << 25) + x.getSetting(0) + x.stateOf(0);
        sink += x.patronage(0, 0) + x.totalPatronage(0) + x.certificate(0, 0) + x.kindOf(0, 0) + x.equityOf(0);
        sink += x.equityIn(0, 0) + x.totalEquity() + x.reserve() + x.paidTo(0, 0) + x.lastAllocation(0);
        sink += x.lastRecapture(0) + (long) x.rateOf(0) + x.ratePoints(0) + (long) x.meanAge(0) + x.oldestYear(0);
        sink += x.wouldGet(0, 5, 5, 5, 5) + x.topMember(5, 5, 5, 5) + x.redeemable() + x.wouldRedeem(0, 7);
        sink += x.budgetThrough(0) + x.installmentsLeft(0) + x.installment(0, 0) + x.balance() + x.nextInLine();
        sink += x.yearsUntil(0, 0) + x.equityOfYear(0) + x.wouldReserve(5, 5, 5, 5) + x.cashNeeded(5, 5, 5, 5);
        sink += x.richest() + x.membersIn(0) + (long) x.partOf(0) + x.redemptionsNeeded(1);
        sink += x.consents(0) || x.isUniform(0) ? 1 : 0;
        sink += x.feed(0x6d656d62, 0x65722061, 0x3b736563, 0x74696f6e, 0x20733b3b);
    }

    /** Once the copies for undo are there, no call but one that throws makes anything. */
    private static void made() {
        Check.section("what calls make");
        if (!(ManagementFactory.getThreadMXBean() instanceof com.sun.management.ThreadMXBean threads)
                || !threads.isThreadAllocatedMemorySupported()) {
            System.out.println("this machine does not count what a thread makes");
            return;
        }
        PatronageBooks x = Texts.books(FULL);
        round(x);
        long self = Thread.currentThread().getId();
        threads.getThreadAllocatedBytes(self);
        long before = threads.getThreadAllocatedBytes(self);
        for (int n = 0; n < ROUNDS; n++) {
            round(x);
        }
        long made = threads.getThreadAllocatedBytes(self) - before;
        // Less than an object a round: the counting itself may make a few.
        Check.same("bytes made in " + ROUNDS + " rounds: " + made, made < 8L * ROUNDS, true);
        Check.same("rounds were made", sink != 0, true);
    }

    private static void round(PatronageBooks x) {
        changes(x);
        questions(x);
        // The text is faulty, so that the books stay as they are.
        sink += x.load(20);
    }
}
