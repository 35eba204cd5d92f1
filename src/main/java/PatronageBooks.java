import java.util.Arrays;

/** The books of a cooperative; the document that it follows is named in README.md. */
public final class PatronageBooks {
    public static final int CASH = 0, RESERVE = 1, YEARS = 2, KEEP = 3, POLICY = 4;
    public static final int ACTIVE = 0, LEAVING = 1, GONE = 2;
    public static final int QUALIFIED = 0, NONQUALIFIED = 1;
    public static final int NOT_FOUND = -1;
    public static final int BAD_VALUE = -2;
    public static final int FULL = -3;
    public static final int IN_USE = -4;
    public static final int BAD_RESULT = -100000000;
    public static final int SYNTAX_ERROR = -11, RANGE_ERROR = -12, NAME_ERROR = -13, DUPLICATE_ERROR = -14, ORDER_ERROR = -15, COUNT_ERROR = -16;

    private static final int MOST_MEMBERS = 8;
    private static final int MOST_DEPARTMENTS = 4;
    private static final int LAST_YEAR = 24;
    // One more than can be closed: a question about closing may be asked in the last year, too.
    private static final int YEAR_PLACES = LAST_YEAR + 1;
    private static final int CERTIFICATE_PLACES = MOST_MEMBERS * YEAR_PLACES;
    private static final int MOST_TRADED = 100000;
    private static final int MOST_PATRONAGE = 1000000;
    private static final int MOST_RESULT = 1000000;
    private static final int MOST_BUDGET = 10000000;
    private static final int MOST_KEPT_CHANGES = 10;
    private static final int MOST_BYTES = 900;
    private static final int BYTES_FED = 20;
    private static final int MOST_REDEMPTIONS = 60;
    private static final int MOST_NAME_LETTERS = 6;

    private static final int SETTING_COUNT = 5;
    private static final int[] LEAST_VALUES = {20, 0, 1, 0, 0};
    private static final int[] GREATEST_VALUES = {100, 50, 10, 20, 2};
    private static final int[] INITIAL_VALUES = {25, 10, 5, 3, 0};

    private static final int BY_YEARS = 0, BY_SHARES = 1;

    private static final int WITH_ALLOCATIONS = 0, BY_REDEMPTION = 1, BY_INSTALLMENTS = 2;
    private static final int PAYMENT_KINDS = 3;

    private static final int NO_ERROR = 0;

    private final Books books;
    // Questions of the form "what if" and texts not yet found good are worked out here.
    private final Books trial;
    private final int[] results;
    private final History history;
    private final Closing closing;
    private final Redemption redemption;
    private final Tokens tokens;
    private final Loader loader;
    private int errorPlace;

    public PatronageBooks() {
        Sharing sharing = new Sharing();
        Closing closer = new Closing(sharing);
        Tokens buffer = new Tokens();
        Books draft = new Books();
        books = new Books();
        trial = draft;
        results = new int[MOST_DEPARTMENTS];
        history = new History();
        closing = closer;
        redemption = new Redemption(sharing);
        tokens = buffer;
        loader = new Loader(buffer, closer, draft);
        errorPlace = NOT_FOUND;
    }

    public int feed(int a, int b, int c, int d, int e) {
        if (!tokens.hasRoom()) {
            return FULL;
        }
        tokens.append(a);
        tokens.append(b);
        tokens.append(c);
        tokens.append(d);
        tokens.append(e);
        return tokens.size;
    }

    public int load(int length) {
        if (length < 0 || length > tokens.size) {
            return BAD_VALUE;
        }
        int answer = loader.readText(length);
        tokens.size = 0;
        if (answer < 0) {
            errorPlace = tokens.start;
            return answer;
        }
        errorPlace = NOT_FOUND;
        books.copyFrom(trial);
        history.forget();
        return answer;
    }

    public int errorPosition() {
        return errorPlace;
    }

    public int memberCount() {
        return books.memberCount;
    }

    public int departmentCount() {
        return books.departmentCount;
    }

    public int year() {
        return books.year;
    }

    public int undoCount() {
        return history.count;
    }

    public int memberNamed(int letters) {
        return books.findMember(letters);
    }

    public int departmentNamed(int letters) {
        return books.findDepartment(letters);
    }

    public int getSetting(int setting) {
        return isSetting(setting) ? books.settings[setting] : BAD_VALUE;
    }

    public boolean consents(int member) throws IndexOutOfBoundsException {
        return memberAt(member).consenting;
    }

    public int stateOf(int member) throws IndexOutOfBoundsException {
        return memberAt(member).state;
    }

    public int patronage(int member, int department) throws IndexOutOfBoundsException {
        Member patron = memberAt(member);
        checkDepartment(department);
        return patron.patronage[department];
    }

    public int totalPatronage(int department) throws IndexOutOfBoundsException {
        checkDepartment(department);
        return books.patronageIn(department);
    }

    public int certificate(int member, int year) throws IndexOutOfBoundsException {
        Member owner = memberAt(member);
        return isClosed(year) ? owner.left[year] : BAD_VALUE;
    }

    public int kindOf(int member, int year) throws IndexOutOfBoundsException {
        Member owner = memberAt(member);
        if (!isClosed(year)) {
            return BAD_VALUE;
        }
        return owner.left[year] > 0 ? owner.kinds[year] : NOT_FOUND;
    }

    public int equityOf(int member) throws IndexOutOfBoundsException {
        return memberAt(member).equity();
    }

    public int equityIn(int member, int kind) throws IndexOutOfBoundsException {
        Member owner = memberAt(member);
        if (kind != QUALIFIED && kind != NONQUALIFIED) {
            return BAD_VALUE;
        }
        return owner.equityOfKind(kind);
    }

    public int totalEquity() {
        return books.equityOfAll();
    }

    public int reserve() {
        return books.reserve;
    }

    public int paidTo(int member, int what) throws IndexOutOfBoundsException {
        Member payee = memberAt(member);
        return what >= 0 && what < PAYMENT_KINDS ? payee.paid[what] : BAD_VALUE;
    }

    public int lastAllocation(int member) throws IndexOutOfBoundsException {
        return memberAt(member).allocation;
    }

    public int lastRecapture(int member) throws IndexOutOfBoundsException {
        return memberAt(member).recapture;
    }

    public float rateOf(int department) throws IndexOutOfBoundsException {
        checkDepartment(department);
        return books.departments[department].rate();
    }

    public int ratePoints(int department) throws IndexOutOfBoundsException {
        checkDepartment(department);
        return (int) (books.departments[department].rate() * 10000f);
    }

    public double meanAge(int member) throws IndexOutOfBoundsException {
        Member owner = memberAt(member);
        int equity = owner.equity();
        if (equity == 0) {
            return Double.NaN;
        }
        return (double) owner.weightedAge(books.year) / (double) equity;
    }

    public int oldestYear(int member) throws IndexOutOfBoundsException {
        return memberAt(member).earliestYear();
    }

    public boolean isUniform(int member) throws IndexOutOfBoundsException {
        Member owner = memberAt(member);
        return owner.equityOfKind(QUALIFIED) == 0 || owner.equityOfKind(NONQUALIFIED) == 0;
    }

    public int wouldGet(int member, int a, int b, int c, int d) throws IndexOutOfBoundsException {
        checkMember(member);
        if (!tryClosing(a, b, c, d)) {
            return BAD_RESULT;
        }
        return trial.members[member].allocation;
    }

    public int topMember(int a, int b, int c, int d) {
        if (!tryClosing(a, b, c, d)) {
            return BAD_VALUE;
        }
        int top = NOT_FOUND;
        int most = 0;
        for (int m = 0; m < trial.memberCount; m++) {
            int allocation = trial.members[m].allocation;
            if (top == NOT_FOUND || allocation > most) {
                top = m;
                most = allocation;
            }
        }
        return top;
    }

    public int redeemable() {
        return books.redeemableThrough(LAST_YEAR);
    }

    public int wouldRedeem(int member, int budget) throws IndexOutOfBoundsException {
        checkMember(member);
        if (!isBudget(budget)) {
            return BAD_VALUE;
        }
        redemption.plan(books, budget);
        return redemption.paymentFor(member);
    }

    public int budgetThrough(int year) {
        return isClosed(year) ? books.redeemableThrough(year) : BAD_VALUE;
    }

    public int installmentsLeft(int member) throws IndexOutOfBoundsException {
        return memberAt(member).installments;
    }

    public int installment(int member, int k) throws IndexOutOfBoundsException {
        return memberAt(member).installmentAfter(k);
    }

    public int balance() {
        return books.allotted - books.recaptured - books.paidInAll(WITH_ALLOCATIONS)
                - books.paidInAll(BY_REDEMPTION) - books.paidInAll(BY_INSTALLMENTS);
    }

    public int nextInLine() {
        redemption.plan(books, 1);
        return redemption.firstPaid();
    }

    public int yearsUntil(int member, int year) throws IndexOutOfBoundsException {
        Member owner = memberAt(member);
        if (!isClosed(year)) {
            return BAD_VALUE;
        }
        if (owner.left[year] == 0 || owner.state != ACTIVE) {
            return NOT_FOUND;
        }
        return Math.max(0, books.settings[KEEP] - (books.year - year));
    }

    public int equityOfYear(int year) {
        if (!isClosed(year)) {
            return BAD_VALUE;
        }
        int sum = 0;
        for (int m = 0; m < books.memberCount; m++) {
            sum += books.members[m].left[year];
        }
        return sum;
    }

    public int wouldReserve(int a, int b, int c, int d) {
        return tryClosing(a, b, c, d) ? trial.reserve : BAD_RESULT;
    }

    public int cashNeeded(int a, int b, int c, int d) {
        if (!tryClosing(a, b, c, d)) {
            return BAD_VALUE;
        }
        return trial.paidInAll(WITH_ALLOCATIONS) - books.paidInAll(WITH_ALLOCATIONS)
                + trial.paidInAll(BY_INSTALLMENTS) - books.paidInAll(BY_INSTALLMENTS);
    }

    public int richest() {
        int richest = NOT_FOUND;
        int most = 0;
        for (int m = 0; m < books.memberCount; m++) {
            int equity = books.members[m].equity();
            if (richest == NOT_FOUND || equity > most) {
                richest = m;
                most = equity;
            }
        }
        return richest;
    }

    public int membersIn(int state) {
        if (state != ACTIVE && state != LEAVING && state != GONE) {
            return BAD_VALUE;
        }
        int count = 0;
        for (int m = 0; m < books.memberCount; m++) {
            if (books.members[m].state == state) {
                count++;
            }
        }
        return count;
    }

    public double partOf(int member) throws IndexOutOfBoundsException {
        int equity = memberAt(member).equity();
        int total = books.equityOfAll();
        if (total == 0) {
            return Double.NaN;
        }
        return (double) equity / (double) total;
    }

    public int redemptionsNeeded(int budget) {
        if (!isBudget(budget)) {
            return BAD_VALUE;
        }
        trial.copyFrom(books);
        for (int n = 0; n < MOST_REDEMPTIONS; n++) {
            if (trial.equityOfActive() == 0) {
                return n;
            }
            redemption.plan(trial, budget);
            redemption.carryOut(trial);
            trial.year++;
        }
        return trial.equityOfActive() == 0 ? MOST_REDEMPTIONS : NOT_FOUND;
    }

    public int trade(int member, int department, int amount) {
        if (!isMember(member) || !isDepartment(department)) {
            return NOT_FOUND;
        }
        if (amount < 1 || amount > MOST_TRADED) {
            return BAD_VALUE;
        }
        Member patron = books.members[member];
        if (patron.state != ACTIVE) {
            return IN_USE;
        }
        if (patron.patronage[department] + amount > MOST_PATRONAGE) {
            return FULL;
        }
        history.keep(books);
        patron.patronage[department] += amount;
        return patron.patronage[department];
    }

    public int close(int a, int b, int c, int d) {
        if (!takeResults(a, b, c, d)) {
            return BAD_VALUE;
        }
        int closed = books.year;
        if (closed >= LAST_YEAR) {
            return FULL;
        }
        history.keep(books);
        closing.carryOut(books, results);
        return closed;
    }

    public int redeem(int budget) {
        if (!isBudget(budget)) {
            return BAD_VALUE;
        }
        int amount = redemption.plan(books, budget);
        if (amount > 0) {
            history.keep(books);
            redemption.carryOut(books);
        }
        return amount;
    }

    public int leave(int member) {
        if (!isMember(member)) {
            return NOT_FOUND;
        }
        Member leaver = books.members[member];
        if (leaver.state != ACTIVE || leaver.hasPatronage()) {
            return IN_USE;
        }
        history.keep(books);
        leaver.startLeaving(books.settings[YEARS]);
        return leaver.installments;
    }

    public int setConsent(int member, boolean consent) {
        if (!isMember(member)) {
            return NOT_FOUND;
        }
        history.keep(books);
        books.members[member].consenting = consent;
        int count = 0;
        for (int m = 0; m < books.memberCount; m++) {
            if (books.members[m].consenting) {
                count++;
            }
        }
        return count;
    }

    public int setSetting(int setting, int value) {
        if (!isSetting(setting) || !isInRange(setting, value)) {
            return BAD_VALUE;
        }
        history.keep(books);
        int previous = books.settings[setting];
        books.settings[setting] = value;
        return previous;
    }

    public int undo() {
        return history.restore(books) ? history.count : NOT_FOUND;
    }

    private boolean isMember(int member) {
        return member >= 0 && member < books.memberCount;
    }

    private boolean isDepartment(int department) {
        return department >= 0 && department < books.departmentCount;
    }

    private boolean isClosed(int year) {
        return year >= 0 && year < books.year;
    }

    private static boolean isBudget(int budget) {
        return budget >= 0 && budget <= MOST_BUDGET;
    }

    private static boolean isSetting(int setting) {
        return setting >= 0 && setting < SETTING_COUNT;
    }

    private static boolean isInRange(int setting, int value) {
        return value >= LEAST_VALUES[setting] && value <= GREATEST_VALUES[setting];
    }

    private void checkMember(int member) {
        if (!isMember(member)) {
            throw new IndexOutOfBoundsException("no such member");
        }
    }

    private void checkDepartment(int department) {
        if (!isDepartment(department)) {
            throw new IndexOutOfBoundsException("no such department");
        }
    }

    private Member memberAt(int member) {
        checkMember(member);
        return books.members[member];
    }

    /** Puts the results into their row; false if close has to refuse them. */
    private boolean takeResults(int a, int b, int c, int d) {
        results[0] = a;
        results[1] = b;
        results[2] = c;
        results[3] = d;
        for (int i = 0; i < MOST_DEPARTMENTS; i++) {
            int most = i < books.departmentCount ? MOST_RESULT : 0;
            if (results[i] < -most || results[i] > most) {
                return false;
            }
        }
        return true;
    }

    /** Closes the year in the trial books only; false if close has to refuse the results. */
    private boolean tryClosing(int a, int b, int c, int d) {
        if (!takeResults(a, b, c, d)) {
            return false;
        }
        trial.copyFrom(books);
        closing.carryOut(trial, results);
        return true;
    }

    /** A member with all that the books hold of it. */
    private static final class Member {
        int name;
        boolean consenting;
        int state;
        int installments;
        int allocation;
        int recapture;
        final int[] patronage = new int[MOST_DEPARTMENTS];
        final int[] left = new int[YEAR_PLACES];
        final int[] kinds = new int[YEAR_PLACES];
        final int[] paid = new int[PAYMENT_KINDS];

        void start(int newName) {
            name = newName;
            consenting = false;
            state = ACTIVE;
            installments = 0;
            allocation = 0;
            recapture = 0;
            Arrays.fill(patronage, 0);
            Arrays.fill(left, 0);
            Arrays.fill(kinds, QUALIFIED);
            Arrays.fill(paid, 0);
        }

        void copyFrom(Member other) {
            name = other.name;
            consenting = other.consenting;
            state = other.state;
            installments = other.installments;
            allocation = other.allocation;
            recapture = other.recapture;
            System.arraycopy(other.patronage, 0, patronage, 0, MOST_DEPARTMENTS);
            System.arraycopy(other.left, 0, left, 0, YEAR_PLACES);
            System.arraycopy(other.kinds, 0, kinds, 0, YEAR_PLACES);
            System.arraycopy(other.paid, 0, paid, 0, PAYMENT_KINDS);
        }

        int equity() {
            int sum = 0;
            for (int y = 0; y < YEAR_PLACES; y++) {
                sum += left[y];
            }
            return sum;
        }

        int equityOfKind(int kind) {
            int sum = 0;
            for (int y = 0; y < YEAR_PLACES; y++) {
                if (kinds[y] == kind) {
                    sum += left[y];
                }
            }
            return sum;
        }

        long weightedAge(int presentYear) {
            long sum = 0;
            for (int y = 0; y < YEAR_PLACES; y++) {
                sum += (long) left[y] * (presentYear - y);
            }
            return sum;
        }

        int earliestYear() {
            for (int y = 0; y < YEAR_PLACES; y++) {
                if (left[y] > 0) {
                    return y;
                }
            }
            return NOT_FOUND;
        }

        boolean hasPatronage() {
            for (int d = 0; d < MOST_DEPARTMENTS; d++) {
                if (patronage[d] > 0) {
                    return true;
                }
            }
            return false;
        }

        void certify(int year, int amount, int kind) {
            if (amount > 0 && year >= 0 && year < YEAR_PLACES) {
                left[year] = amount;
                kinds[year] = kind;
            }
        }

        /** Takes a loss from the certificates, the latest first; returns how much they could bear. */
        int recaptureFrom(int loss) {
            int open = loss;
            for (int y = YEAR_PLACES - 1; y >= 0 && open > 0; y--) {
                int taken = Math.min(open, left[y]);
                left[y] -= taken;
                open -= taken;
            }
            return loss - open;
        }

        void startLeaving(int years) {
            boolean hasEquity = equity() > 0;
            state = hasEquity ? LEAVING : GONE;
            installments = hasEquity ? years : 0;
        }

        void payInstallment() {
            int amount = roundedUp(equity(), installments);
            int open = amount;
            for (int y = 0; y < YEAR_PLACES && open > 0; y++) {
                int taken = Math.min(open, left[y]);
                left[y] -= taken;
                open -= taken;
            }
            paid[BY_INSTALLMENTS] += amount;
            installments--;
            if (installments <= 0) {
                installments = 0;
                state = GONE;
            }
        }

        int installmentAfter(int k) {
            if (k < 0 || k >= installments) {
                return NOT_FOUND;
            }
            int open = equity();
            for (int paidBefore = 0; paidBefore < k; paidBefore++) {
                open -= roundedUp(open, installments - paidBefore);
            }
            return roundedUp(open, installments - k);
        }

        private static int roundedUp(int amount, int parts) {
            return parts > 0 ? (amount + parts - 1) / parts : amount;
        }
    }

    /** A department with the figures of the latest year that was closed. */
    private static final class Department {
        int name;
        int allocated;
        int basis;

        void start(int newName) {
            name = newName;
            allocated = 0;
            basis = 0;
        }

        void copyFrom(Department other) {
            name = other.name;
            allocated = other.allocated;
            basis = other.basis;
        }

        float rate() {
            return basis > 0 ? (float) allocated / (float) basis : 0f;
        }
    }

    /** The state of the cooperative: all that a change changes and undo brings back. */
    private static final class Books {
        final Member[] members = new Member[MOST_MEMBERS];
        final Department[] departments = new Department[MOST_DEPARTMENTS];
        final int[] settings = new int[SETTING_COUNT];
        int memberCount;
        int departmentCount;
        int year;
        int reserve;
        int allotted;
        int recaptured;

        Books() {
            for (int m = 0; m < MOST_MEMBERS; m++) {
                members[m] = new Member();
            }
            for (int d = 0; d < MOST_DEPARTMENTS; d++) {
                departments[d] = new Department();
            }
            System.arraycopy(INITIAL_VALUES, 0, settings, 0, SETTING_COUNT);
        }

        void startAnew() {
            memberCount = 0;
            departmentCount = 0;
            year = 0;
            reserve = 0;
            allotted = 0;
            recaptured = 0;
            System.arraycopy(INITIAL_VALUES, 0, settings, 0, SETTING_COUNT);
        }

        void copyFrom(Books other) {
            memberCount = other.memberCount;
            departmentCount = other.departmentCount;
            year = other.year;
            reserve = other.reserve;
            allotted = other.allotted;
            recaptured = other.recaptured;
            System.arraycopy(other.settings, 0, settings, 0, SETTING_COUNT);
            for (int m = 0; m < memberCount; m++) {
                members[m].copyFrom(other.members[m]);
            }
            for (int d = 0; d < departmentCount; d++) {
                departments[d].copyFrom(other.departments[d]);
            }
        }

        void addMember(int name) {
            if (memberCount < MOST_MEMBERS) {
                members[memberCount].start(name);
                memberCount++;
            }
        }

        void addDepartment(int name) {
            if (departmentCount < MOST_DEPARTMENTS) {
                departments[departmentCount].start(name);
                departmentCount++;
            }
        }

        int findMember(int name) {
            for (int m = 0; m < memberCount; m++) {
                if (members[m].name == name) {
                    return m;
                }
            }
            return NOT_FOUND;
        }

        int findDepartment(int name) {
            for (int d = 0; d < departmentCount; d++) {
                if (departments[d].name == name) {
                    return d;
                }
            }
            return NOT_FOUND;
        }

        int patronageIn(int department) {
            int sum = 0;
            for (int m = 0; m < memberCount; m++) {
                sum += members[m].patronage[department];
            }
            return sum;
        }

        int equityOfAll() {
            int sum = 0;
            for (int m = 0; m < memberCount; m++) {
                sum += members[m].equity();
            }
            return sum;
        }

        int equityOfActive() {
            int sum = 0;
            for (int m = 0; m < memberCount; m++) {
                if (members[m].state == ACTIVE) {
                    sum += members[m].equity();
                }
            }
            return sum;
        }

        int paidInAll(int what) {
            int sum = 0;
            for (int m = 0; m < memberCount; m++) {
                sum += members[m].paid[what];
            }
            return sum;
        }

        boolean canRedeem(Member owner, int certificateYear) {
            return owner.state == ACTIVE && owner.left[certificateYear] > 0
                    && year - certificateYear >= settings[KEEP];
        }

        int redeemableThrough(int latest) {
            int sum = 0;
            for (int y = 0; y < YEAR_PLACES && y <= latest; y++) {
                for (int m = 0; m < memberCount; m++) {
                    if (canRedeem(members[m], y)) {
                        sum += members[m].left[y];
                    }
                }
            }
            return sum;
        }
    }

    /** Shares an amount by weights, to the last unit. */
    private static final class Sharing {
        private final int[] weights = new int[CERTIFICATE_PLACES];
        private final int[] shares = new int[CERTIFICATE_PLACES];
        private final long[] remainders = new long[CERTIFICATE_PLACES];
        private int count;

        void start() {
            count = 0;
        }

        void add(int weight) {
            if (count < CERTIFICATE_PLACES) {
                weights[count] = weight;
                shares[count] = 0;
                count++;
            }
        }

        int shareAt(int i) {
            return i >= 0 && i < count ? shares[i] : 0;
        }

        void share(int amount) {
            long total = 0;
            for (int i = 0; i < count; i++) {
                total += weights[i];
            }
            if (total <= 0) {
                return;
            }
            int open = amount;
            for (int i = 0; i < count; i++) {
                long product = (long) amount * weights[i];
                shares[i] = (int) (product / total);
                remainders[i] = product % total;
                open -= shares[i];
            }
            for (int given = 0; given < open && given < count; given++) {
                int greatest = 0;
                for (int i = 1; i < count; i++) {
                    if (remainders[i] > remainders[greatest]) {
                        greatest = i;
                    }
                }
                shares[greatest]++;
                // Below every remainder, so that no share gets a second unit.
                remainders[greatest] = -1;
            }
        }
    }

    /** Closes the present year of some books. */
    private static final class Closing {
        private final Sharing sharing;

        Closing(Sharing sharing) {
            this.sharing = sharing;
        }

        void carryOut(Books books, int[] results) {
            for (int m = 0; m < books.memberCount; m++) {
                books.members[m].allocation = 0;
                books.members[m].recapture = 0;
            }
            for (int d = 0; d < books.departmentCount && d < results.length; d++) {
                int kept = results[d] > 0 ? results[d] * books.settings[RESERVE] / 100 : 0;
                books.reserve += kept;
                allocate(books, d, results[d] - kept);
            }
            for (int m = 0; m < books.memberCount; m++) {
                settle(books, books.members[m]);
            }
            for (int m = 0; m < books.memberCount; m++) {
                if (books.members[m].state == LEAVING) {
                    books.members[m].payInstallment();
                }
                Arrays.fill(books.members[m].patronage, 0);
            }
            books.year++;
        }

        private void allocate(Books books, int d, int amount) {
            Department department = books.departments[d];
            department.basis = books.patronageIn(d);
            department.allocated = 0;
            if (department.basis == 0) {
                books.reserve += amount;
                return;
            }
            department.allocated = amount;
            sharing.start();
            for (int m = 0; m < books.memberCount; m++) {
                sharing.add(books.members[m].patronage[d]);
            }
            // A loss is rounded as a surplus of its amount is, hence the sign is put on afterwards.
            sharing.share(amount < 0 ? -amount : amount);
            for (int m = 0; m < books.memberCount; m++) {
                int share = sharing.shareAt(m);
                books.members[m].allocation += amount < 0 ? -share : share;
            }
        }

        private void settle(Books books, Member member) {
            int n = member.allocation;
            if (n > 0) {
                int cash = member.consenting ? n * books.settings[CASH] / 100 : 0;
                member.paid[WITH_ALLOCATIONS] += cash;
                member.certify(books.year, n - cash, member.consenting ? QUALIFIED : NONQUALIFIED);
                books.allotted += n;
            } else if (n < 0) {
                member.recapture = member.recaptureFrom(-n);
                books.recaptured += member.recapture;
                books.reserve -= -n - member.recapture;
            }
        }
    }

    /** Works out a redemption first and carries it out, if wanted, afterwards. */
    private static final class Redemption {
        private final Sharing sharing;
        // The certificates that can be redeemed, in the order of their years, then of the members.
        private final int[] owners = new int[CERTIFICATE_PLACES];
        private final int[] years = new int[CERTIFICATE_PLACES];
        private final int[] amounts = new int[CERTIFICATE_PLACES];
        private final int[] payments = new int[CERTIFICATE_PLACES];
        private int count;

        Redemption(Sharing sharing) {
            this.sharing = sharing;
        }

        /** Returns what would be paid in all. */
        int plan(Books books, int budget) {
            int sum = collect(books);
            if (budget >= sum) {
                System.arraycopy(amounts, 0, payments, 0, count);
                return sum;
            }
            int policy = books.settings[POLICY];
            if (policy == BY_YEARS) {
                payByYears(budget);
            } else if (policy == BY_SHARES) {
                payShares(0, count, budget);
            } else {
                paySmallestFirst(budget);
            }
            return budget;
        }

        int paymentFor(int member) {
            int sum = 0;
            for (int i = 0; i < count; i++) {
                if (owners[i] == member) {
                    sum += payments[i];
                }
            }
            return sum;
        }

        int firstPaid() {
            for (int i = 0; i < count; i++) {
                if (payments[i] > 0) {
                    return owners[i];
                }
            }
            return NOT_FOUND;
        }

        /** To be called for the books of the latest plan, with nothing changed in them since. */
        void carryOut(Books books) {
            for (int i = 0; i < count; i++) {
                Member owner = books.members[owners[i]];
                owner.left[years[i]] -= payments[i];
                owner.paid[BY_REDEMPTION] += payments[i];
            }
        }

        private int collect(Books books) {
            int sum = 0;
            count = 0;
            for (int y = 0; y < YEAR_PLACES; y++) {
                for (int m = 0; m < books.memberCount; m++) {
                    if (count < CERTIFICATE_PLACES && books.canRedeem(books.members[m], y)) {
                        owners[count] = m;
                        years[count] = y;
                        amounts[count] = books.members[m].left[y];
                        payments[count] = 0;
                        sum += amounts[count];
                        count++;
                    }
                }
            }
            return sum;
        }

        private void payByYears(int budget) {
            int open = budget;
            int from = 0;
            for (int y = 0; y < YEAR_PLACES; y++) {
                int sum = 0;
                int to = from;
                while (to < count && years[to] == y) {
                    sum += amounts[to];
                    to++;
                }
                int paid = Math.min(open, sum);
                // Shares of the whole sum are the certificates themselves.
                payShares(from, to, paid);
                open -= paid;
                from = to;
            }
        }

        private void payShares(int from, int to, int amount) {
            sharing.start();
            for (int i = from; i < to; i++) {
                sharing.add(amounts[i]);
            }
            sharing.share(amount);
            for (int i = from; i < to; i++) {
                payments[i] = sharing.shareAt(i - from);
            }
        }

        private void paySmallestFirst(int budget) {
            int open = budget;
            for (int n = 0; n < count && open > 0; n++) {
                int smallest = NOT_FOUND;
                for (int i = 0; i < count; i++) {
                    if (payments[i] == 0 && (smallest < 0 || amounts[i] < amounts[smallest])) {
                        smallest = i;
                    }
                }
                if (smallest < 0) {
                    return;
                }
                payments[smallest] = Math.min(open, amounts[smallest]);
                open -= payments[smallest];
            }
        }
    }

    /** The states before the latest changes, in a ring. */
    private static final class History {
        // Made when first needed: most objects see few changes.
        private final Books[] kept = new Books[MOST_KEPT_CHANGES];
        private int first;
        private int count;

        void forget() {
            count = 0;
        }

        void keep(Books books) {
            if (count == MOST_KEPT_CHANGES) {
                first = (first + 1) % MOST_KEPT_CHANGES;
                count--;
            }
            int place = (first + count) % MOST_KEPT_CHANGES;
            if (kept[place] == null) {
                kept[place] = new Books();
            }
            kept[place].copyFrom(books);
            count++;
        }

        boolean restore(Books books) {
            if (count == 0) {
                return false;
            }
            Books latest = kept[(first + count - 1) % MOST_KEPT_CHANGES];
            if (latest == null) {
                return false;
            }
            books.copyFrom(latest);
            count--;
            return true;
        }
    }

    /** The input buffer and its tokens, one at a time. */
    private static final class Tokens {
        private static final int END = 0, WORD = 1, INTEGER = 2, SEMICOLON = 3, MINUS = 4, OTHER = 5;
        // Above every range, and ten times it still fits: greater integers need not be told apart.
        private static final int HUGE = 100000000;

        private final byte[] bytes = new byte[MOST_BYTES];
        private int size;
        private int length;
        private int kind;
        private int start;
        private int end;

        boolean hasRoom() {
            return size + BYTES_FED <= MOST_BYTES;
        }

        void append(int four) {
            for (int shift = 24; shift >= 0 && size < MOST_BYTES; shift -= 8) {
                bytes[size] = (byte) (four >>> shift);
                size++;
            }
        }

        /** Goes to the first token of a text. */
        void open(int textLength) {
            length = Math.min(textLength, size);
            end = 0;
            next();
        }

        void next() {
            start = end;
            while (start < length && (bytes[start] == ' ' || bytes[start] == '\n')) {
                start++;
            }
            end = start;
            if (start >= length) {
                kind = END;
                return;
            }
            kind = kindOfSign(bytes[start]);
            end = start + 1;
            if (kind == WORD || kind == INTEGER) {
                while (end < length && kindOfSign(bytes[end]) == kind) {
                    end++;
                }
            }
        }

        private static int kindOfSign(int sign) {
            if (sign >= 'a' && sign <= 'z') {
                return WORD;
            }
            if (sign >= '0' && sign <= '9') {
                return INTEGER;
            }
            if (sign == ';') {
                return SEMICOLON;
            }
            return sign == '-' ? MINUS : OTHER;
        }

        boolean isWord(String word) {
            if (kind != WORD || end - start != word.length()) {
                return false;
            }
            for (int i = 0; i < word.length() && start + i < length; i++) {
                if (bytes[start + i] != word.charAt(i)) {
                    return false;
                }
            }
            return true;
        }

        boolean isName() {
            // The other words of the grammar have seven letters and are no names for that alone.
            return kind == WORD && end - start <= MOST_NAME_LETTERS
                    && !isWord("member") && !isWord("trade") && !isWord("close") && !isWord("set")
                    && !isWord("cash") && !isWord("years") && !isWord("keep") && !isWord("policy");
        }

        /** The name as memberNamed takes it. */
        int letters() {
            int letters = 0;
            for (int i = 0; i < MOST_NAME_LETTERS; i++) {
                int letter = start + i < end ? bytes[start + i] - 'a' + 1 : 0;
                letters = letters << 5 | letter;
            }
            return letters;
        }

        int integer() {
            int value = 0;
            for (int i = start; i < end && value < HUGE; i++) {
                value = value * 10 + (bytes[i] - '0');
            }
            return value;
        }
    }

    /** Reads a text into books of its own; an error is that of the token at which it stopped. */
    private static final class Loader {
        private final Tokens tokens;
        private final Closing closing;
        private final Books books;
        private final int[] results = new int[MOST_DEPARTMENTS];
        private final boolean[] given = new boolean[SETTING_COUNT];

        Loader(Tokens tokens, Closing closing, Books books) {
            this.tokens = tokens;
            this.closing = closing;
            this.books = books;
        }

        /** Returns the number of statements or an error code. */
        int readText(int length) {
            books.startAnew();
            for (int s = 0; s < SETTING_COUNT; s++) {
                given[s] = false;
            }
            tokens.open(length);
            int statements = 0;
            while (tokens.kind != Tokens.END && statements < MOST_BYTES) {
                int error = readStatement();
                if (error != NO_ERROR) {
                    return error;
                }
                if (tokens.kind != Tokens.SEMICOLON) {
                    return SYNTAX_ERROR;
                }
                tokens.next();
                statements++;
            }
            return statements;
        }

        private int readStatement() {
            if (tokens.isWord("member")) {
                return readMember();
            }
            if (tokens.isWord("section")) {
                return readSection();
            }
            if (tokens.isWord("trade")) {
                return readTrade();
            }
            if (tokens.isWord("close")) {
                return readClose();
            }
            if (tokens.isWord("set")) {
                return readSet();
            }
            return SYNTAX_ERROR;
        }

        private int readMember() {
            if (books.memberCount >= MOST_MEMBERS) {
                return COUNT_ERROR;
            }
            tokens.next();
            int error = checkNewName();
            if (error != NO_ERROR) {
                return error;
            }
            int member = books.memberCount;
            books.addMember(tokens.letters());
            tokens.next();
            if (tokens.isWord("consent")) {
                books.members[member].consenting = true;
                tokens.next();
            }
            return NO_ERROR;
        }

        private int readSection() {
            if (books.year > 0) {
                return ORDER_ERROR;
            }
            if (books.departmentCount >= MOST_DEPARTMENTS) {
                return COUNT_ERROR;
            }
            tokens.next();
            int error = checkNewName();
            if (error != NO_ERROR) {
                return error;
            }
            books.addDepartment(tokens.letters());
            tokens.next();
            return NO_ERROR;
        }

        private int checkNewName() {
            if (!tokens.isName()) {
                return SYNTAX_ERROR;
            }
            int name = tokens.letters();
            boolean declared = books.findMember(name) >= 0 || books.findDepartment(name) >= 0;
            return declared ? DUPLICATE_ERROR : NO_ERROR;
        }

        private int readTrade() {
            tokens.next();
            if (!tokens.isName()) {
                return SYNTAX_ERROR;
            }
            int member = books.findMember(tokens.letters());
            if (member < 0) {
                return NAME_ERROR;
            }
            tokens.next();
            if (!tokens.isName()) {
                return SYNTAX_ERROR;
            }
            int department = books.findDepartment(tokens.letters());
            if (department < 0) {
                return NAME_ERROR;
            }
            tokens.next();
            int error = checkInteger(1, MOST_TRADED);
            if (error != NO_ERROR) {
                return error;
            }
            int sum = books.members[member].patronage[department] + tokens.integer();
            if (sum > MOST_PATRONAGE) {
                return COUNT_ERROR;
            }
            books.members[member].patronage[department] = sum;
            tokens.next();
            return NO_ERROR;
        }

        private int readClose() {
            if (books.year >= LAST_YEAR) {
                return COUNT_ERROR;
            }
            tokens.next();
            for (int d = 0; d < books.departmentCount; d++) {
                boolean negative = tokens.kind == Tokens.MINUS;
                if (negative) {
                    tokens.next();
                }
                int error = checkInteger(0, MOST_RESULT);
                if (error != NO_ERROR) {
                    return error;
                }
                results[d] = negative ? -tokens.integer() : tokens.integer();
                tokens.next();
            }
            closing.carryOut(books, results);
            return NO_ERROR;
        }

        private int readSet() {
            tokens.next();
            int setting = settingAtToken();
            if (setting < 0) {
                return SYNTAX_ERROR;
            }
            if (given[setting]) {
                return DUPLICATE_ERROR;
            }
            given[setting] = true;
            tokens.next();
            int error = checkInteger(LEAST_VALUES[setting], GREATEST_VALUES[setting]);
            if (error != NO_ERROR) {
                return error;
            }
            books.settings[setting] = tokens.integer();
            tokens.next();
            return NO_ERROR;
        }

        private int settingAtToken() {
            if (tokens.isWord("cash")) {
                return CASH;
            }
            if (tokens.isWord("reserve")) {
                return RESERVE;
            }
            if (tokens.isWord("years")) {
                return YEARS;
            }
            if (tokens.isWord("keep")) {
                return KEEP;
            }
            return tokens.isWord("policy") ? POLICY : NOT_FOUND;
        }

        private int checkInteger(int least, int most) {
            if (tokens.kind != Tokens.INTEGER) {
                return SYNTAX_ERROR;
            }
            int value = tokens.integer();
            return value < least || value > most ? RANGE_ERROR : NO_ERROR;
        }
    }
}
