import java.util.NoSuchElementException;

/** Loans served day by day, as the document of LoanDesk promises. */
public final class LoanDesk {
    private static final int MAX_LOANS = 3;
    private static final int LAST_DAY = 1500;
    private static final int LAST_INTEREST_DAY = 4000;
    private static final int MAX_PRINCIPAL = 100000000;
    private static final int MAX_RATE = 30000;
    private static final int MAX_MONTHS = 36;
    private static final int MAX_CHARGE = 10000000;
    private static final int MAX_PAYMENT = 200000000;
    private static final int MAX_DUE_DAY = 100;
    private static final int FIRST_YEAR = 2000;

    // What is due, in the order in which a payment goes to it, and the other parts of a payment.
    private static final int FEES = 0;
    private static final int INTEREST = 1;
    private static final int PRINCIPAL = 2;
    private static final int ESCROW = 3;
    private static final int DUE_KINDS = 4;
    private static final int PREPAYMENT = 4;
    private static final int REST = 5;
    private static final int PAYMENT_PARTS = 6;

    private final Loan[] loans;
    private int loanCount;
    private int today;

    public LoanDesk() {
        loans = new Loan[MAX_LOANS];
        loanCount = 0;
        today = 0;
    }

    public int open(int principal, int rate, int months, int rule, int rounding, boolean steady)
            throws IllegalArgumentException, IllegalStateException {
        if (!within(principal, 1, MAX_PRINCIPAL) || !within(rate, 0, MAX_RATE)
                || !within(months, 1, MAX_MONTHS) || !within(rule, 0, 3) || !within(rounding, 0, 3)) {
            throw new IllegalArgumentException();
        }
        if (loanCount >= MAX_LOANS) {
            throw new IllegalStateException();
        }
        Terms terms = new Terms(rate, months, rule, rounding, steady, today);
        Loan opened = new Loan(terms, principal, today);
        opened.reckonLevel(today);
        loans[loanCount] = opened;
        loanCount++;
        return loanCount - 1;
    }

    public void charge(int loan, int charge) throws IndexOutOfBoundsException, IllegalArgumentException {
        Loan found = find(loan);
        if (!within(charge, 0, MAX_CHARGE)) {
            throw new IllegalArgumentException();
        }
        found.account.agreeOn(charge);
    }

    public int advance(int days) throws IllegalArgumentException, IllegalStateException {
        if (days < 0) {
            throw new IllegalArgumentException();
        }
        if (days > LAST_DAY - today) {
            throw new IllegalStateException();
        }
        int made = 0;
        for (int passed = 0; passed < days; passed++) {
            today++;
            for (int i = 0; i < loanCount; i++) {
                if (loans[i].beginDay(today)) {
                    made++;
                }
            }
        }
        return made;
    }

    public int pay(int loan, int cents) throws IndexOutOfBoundsException, IllegalArgumentException {
        Loan found = find(loan);
        if (!within(cents, 1, MAX_PAYMENT)) {
            throw new IllegalArgumentException();
        }
        return found.takePayment(cents, today);
    }

    public int part(int loan, int what)
            throws IndexOutOfBoundsException, IllegalArgumentException, IllegalStateException {
        Loan found = find(loan);
        if (!within(what, 0, PAYMENT_PARTS - 1)) {
            throw new IllegalArgumentException();
        }
        if (!found.wasPaid) {
            throw new IllegalStateException();
        }
        return found.parts[what];
    }

    public int date() {
        int month = Days.monthOf(today);
        return 10000 * (FIRST_YEAR + month / 12) + 100 * (month % 12 + 1) + Days.numberInMonth(today);
    }

    public int due(int loan, int k) throws IndexOutOfBoundsException, IllegalArgumentException {
        Loan found = find(loan);
        if (!within(k, 1, MAX_DUE_DAY)) {
            throw new IllegalArgumentException();
        }
        return found.terms.dueDay(k);
    }

    public int principal(int loan) throws IndexOutOfBoundsException {
        return find(loan).principal;
    }

    public int level(int loan) throws IndexOutOfBoundsException {
        return find(loan).level;
    }

    public int accrued(int loan) throws IndexOutOfBoundsException {
        return find(loan).accruedBy(today);
    }

    public int owed(int loan, int what) throws IndexOutOfBoundsException, IllegalArgumentException {
        Loan found = find(loan);
        if (!within(what, 0, DUE_KINDS - 1)) {
            throw new IllegalArgumentException();
        }
        return found.owed[what];
    }

    public int escrow(int loan) throws IndexOutOfBoundsException {
        return find(loan).account.balance;
    }

    public int deposit(int loan) throws IndexOutOfBoundsException {
        return find(loan).account.deposit;
    }

    public int bills(int loan) throws IndexOutOfBoundsException {
        return find(loan).billBook.count;
    }

    public int bill(int loan, int k, int what)
            throws IndexOutOfBoundsException, IllegalArgumentException, NoSuchElementException {
        Loan found = find(loan);
        if (!within(what, 0, BillBook.WIDTH - 1)) {
            throw new IllegalArgumentException();
        }
        if (!within(k, 0, found.billBook.count - 1)) {
            throw new NoSuchElementException();
        }
        return found.billBook.entries[k * BillBook.WIDTH + what];
    }

    public int interest(int amount, int rate, int from, int to, int rule, int rounding)
            throws IllegalArgumentException {
        if (!within(amount, 0, MAX_PRINCIPAL) || !within(rate, 0, MAX_RATE)
                || !within(from, 0, LAST_INTEREST_DAY) || !within(to, from, LAST_INTEREST_DAY)
                || !within(rule, 0, 3) || !within(rounding, 0, 3)) {
            throw new IllegalArgumentException();
        }
        return Cents.interestOn(amount, rate, Span.top(rule, from, to), rule, rounding);
    }

    private Loan find(int loan) {
        if (loan < 0 || loan >= loanCount) {
            throw new IndexOutOfBoundsException();
        }
        return loans[loan];
    }

    private static boolean within(int value, int least, int most) {
        return value >= least && value <= most;
    }

    /**
     * The calendar, with months numbered from 0, January 2000.
     * Inside, years are counted from March 1999 on: a leap day is then the last day of its year,
     * and the lengths of the months follow a plain fraction.
     */
    private static final class Days {
        private static final int DAYS_BEFORE_2000 = 306;
        private static final int MONTHS_BEFORE_2000 = 10;
        static final int FOUR_YEARS = 1461;
        static final int LONG_YEAR = 366;
        static final int SHORT_YEAR = 365;

        static int monthOf(int day) {
            int sinceMarch = day + DAYS_BEFORE_2000;
            int year = 4 * sinceMarch / FOUR_YEARS;
            int dayInYear = sinceMarch - (FOUR_YEARS * year + 3) / 4;
            return 12 * year + (5 * dayInYear + 2) / 153 - MONTHS_BEFORE_2000;
        }

        static int firstDayOf(int month) {
            int sinceMarch = month + MONTHS_BEFORE_2000;
            int year = sinceMarch / 12;
            int monthInYear = sinceMarch % 12;
            return (FOUR_YEARS * year + 3) / 4 + (153 * monthInYear + 2) / 5 - DAYS_BEFORE_2000;
        }

        static int numberInMonth(int day) {
            return day - firstDayOf(monthOf(day)) + 1;
        }

        /** The day number if all months had 30 days. */
        static int thirties(int day) {
            int month = monthOf(day);
            int number = day - firstDayOf(month) + 1;
            return 30 * month + Math.min(number, 30);
        }

        /** How many of the days before this one are in years of 366 days. */
        static int inLongYears(int day) {
            return day / FOUR_YEARS * LONG_YEAR + Math.min(day % FOUR_YEARS, LONG_YEAR);
        }
    }

    /** Spans as fractions of a year: the top depends on the days, the bottom on the rule alone. */
    private static final class Span {
        static int top(int rule, int from, int to) {
            switch (rule) {
                case 2:
                    return Days.thirties(to) - Days.thirties(from);
                case 3:
                    int longs = Days.inLongYears(to) - Days.inLongYears(from);
                    return longs * Days.SHORT_YEAR + (to - from - longs) * Days.LONG_YEAR;
                default:
                    return to - from;
            }
        }

        static int bottom(int rule) {
            switch (rule) {
                case 0:
                    return Days.SHORT_YEAR;
                case 3:
                    return Days.SHORT_YEAR * Days.LONG_YEAR;
                default:
                    return 360;
            }
        }
    }

    /** Reckoning with fractions of cents. */
    private static final class Cents {
        private static final long RATE_UNIT = 100000;

        static int interestOn(int amount, int rate, int spanTop, int rule, int rounding) {
            // In the widest case (100000000 cents, 4000 days, rule 3) the top is still below 2^62.
            return rounded((long) amount * rate * spanTop, RATE_UNIT * Span.bottom(rule), rounding);
        }

        static int rounded(long top, long bottom, int rounding) {
            if (bottom <= 0) {
                return 0;
            }
            long whole = top / bottom;
            long rest = top % bottom;
            boolean up;
            switch (rounding) {
                case 0:
                    up = false;
                    break;
                case 1:
                    up = rest > 0;
                    break;
                case 2:
                    up = 2 * rest >= bottom;
                    break;
                default:
                    up = 2 * rest > bottom || (2 * rest == bottom && whole % 2 == 1);
                    break;
            }
            return (int) (up ? whole + 1 : whole);
        }

        static int twelfth(int amount) {
            return (amount + 11) / 12;
        }
    }

    /** What is agreed on when a loan is opened and never changes. */
    private static final class Terms {
        final int rate;
        final int months;
        final int rule;
        final int rounding;
        final boolean steady;
        final int monthOpened;
        final int numberInMonth;

        Terms(int rate, int months, int rule, int rounding, boolean steady, int day) {
            this.rate = rate;
            this.months = months;
            this.rule = rule;
            this.rounding = rounding;
            this.steady = steady;
            this.monthOpened = Days.monthOf(day);
            this.numberInMonth = Days.numberInMonth(day);
        }

        int dueDay(int k) {
            int first = Days.firstDayOf(monthOpened + k);
            int last = Days.firstDayOf(monthOpened + k + 1) - 1;
            return Math.min(first + numberInMonth - 1, last);
        }
    }

    /** The escrow, out of which a yearly charge is paid. */
    private static final class Account {
        int balance;
        int deposit;
        private int yearlyCharge;

        void agreeOn(int charge) {
            yearlyCharge = charge;
            deposit = Cents.twelfth(charge);
        }

        void payCharge() {
            balance -= yearlyCharge;
            deposit = Cents.twelfth(yearlyCharge + Math.max(0, -balance));
        }
    }

    /** The bills of a loan, one row behind the other: day, principal, interest, part, deposit. */
    private static final class BillBook {
        static final int WIDTH = 5;
        // 49 due days fit into days 1 to 1500.
        private static final int ROOM = 50;

        final int[] entries = new int[ROOM * WIDTH];
        int count;

        void add(int day, int principal, int interest, int part, int deposit) {
            if (count >= ROOM) {
                return;
            }
            int at = count * WIDTH;
            entries[at] = day;
            entries[at + 1] = principal;
            entries[at + 2] = interest;
            entries[at + 3] = part;
            entries[at + 4] = deposit;
            count++;
        }

        boolean latestIsOf(int day) {
            return count > 0 && entries[(count - 1) * WIDTH] == day;
        }
    }

    private static final class Loan {
        private static final int DAYS_OF_GRACE = 10;
        private static final int FEE_PART = 20;
        private static final int HALVINGS = 32;

        final Terms terms;
        final Account account;
        final BillBook billBook;
        final int[] owed;
        final int[] parts;
        boolean wasPaid;
        int principal;
        int level;
        private int accrued;
        private int accruedUpTo;
        private int dueDaysPassed;
        private int nextDueDay;
        // Used again by every reckoning of the level, so that none makes an array.
        private final int[] spanTops;

        Loan(Terms terms, int principal, int today) {
            this.terms = terms;
            this.principal = principal;
            account = new Account();
            billBook = new BillBook();
            owed = new int[DUE_KINDS];
            parts = new int[PAYMENT_PARTS];
            accruedUpTo = today;
            nextDueDay = terms.dueDay(1);
            spanTops = new int[MAX_MONTHS];
        }

        int accruedBy(int today) {
            int spanTop = Span.top(terms.rule, accruedUpTo, today);
            return accrued + Cents.interestOn(principal, terms.rate, spanTop, terms.rule, terms.rounding);
        }

        private void accrue(int today) {
            accrued = accruedBy(today);
            accruedUpTo = today;
        }

        /** Answers whether a bill was made. */
        boolean beginDay(int today) {
            if (billBook.latestIsOf(today - DAYS_OF_GRACE)) {
                addLateFee();
            }
            if (today != nextDueDay) {
                return false;
            }
            dueDaysPassed++;
            nextDueDay = terms.dueDay(dueDaysPassed + 1);
            if (dueDaysPassed % 12 == 0) {
                account.payCharge();
            }
            accrue(today);
            if (principal <= 0 && accrued <= 0) {
                return false;
            }
            makeBill(today);
            return true;
        }

        private void addLateFee() {
            long late = (long) owed[INTEREST] + owed[PRINCIPAL] + owed[ESCROW];
            owed[FEES] += Cents.rounded(late, FEE_PART, terms.rounding);
        }

        private void makeBill(int today) {
            int interest = accrued;
            int part = partToBill(interest);
            int deposit = principal > 0 ? account.deposit : 0;
            accrued = 0;
            owed[INTEREST] += interest;
            owed[PRINCIPAL] += part;
            owed[ESCROW] += deposit;
            billBook.add(today, principal, interest, part, deposit);
        }

        private int partToBill(int interest) {
            int notDue = principal - owed[PRINCIPAL];
            if (dueDaysPassed >= terms.months) {
                return notDue;
            }
            return Math.min(notDue, Math.max(0, level - interest));
        }

        /** Answers the rest. */
        int takePayment(int cents, int today) {
            splitPayment(cents);
            int repaid = parts[PRINCIPAL] + parts[PREPAYMENT];
            if (repaid > 0) {
                accrue(today);
            }
            for (int what = 0; what < DUE_KINDS; what++) {
                owed[what] -= parts[what];
            }
            principal -= repaid;
            account.balance += parts[ESCROW];
            wasPaid = true;
            if (parts[PREPAYMENT] > 0 && !terms.steady) {
                reckonLevel(today);
            }
            return parts[REST];
        }

        private void splitPayment(int cents) {
            int left = cents;
            for (int what = 0; what < DUE_KINDS; what++) {
                parts[what] = Math.min(left, owed[what]);
                left -= parts[what];
            }
            parts[PREPAYMENT] = Math.min(left, principal - parts[PRINCIPAL]);
            parts[REST] = left - parts[PREPAYMENT];
        }

        void reckonLevel(int today) {
            int amount = principal - owed[PRINCIPAL];
            if (amount <= 0) {
                level = 0;
                return;
            }
            int count = layOutSpans(today);
            if (count > 0) {
                level = leastLevel(amount, count);
            }
        }

        /** Answers how many due days up to the last one of the loan are behind today. */
        private int layOutSpans(int today) {
            int count = 0;
            int from = today;
            for (int k = dueDaysPassed + 1; k <= terms.months && count < spanTops.length; k++) {
                int to = terms.dueDay(k);
                spanTops[count] = Span.top(terms.rule, from, to);
                count++;
                from = to;
            }
            return count;
        }

        /** What is left never grows with the level, so the least level can be found by halving. */
        private int leastLevel(int amount, int count) {
            int tooLow = 0;
            int enough = amount + Cents.interestOn(amount, terms.rate, spanTops[0], terms.rule, terms.rounding);
            for (int step = 0; step < HALVINGS && enough - tooLow > 1; step++) {
                int middle = tooLow + (enough - tooLow) / 2;
                if (leftInTheEnd(amount, middle, count) > 0) {
                    tooLow = middle;
                } else {
                    enough = middle;
                }
            }
            return enough;
        }

        private int leftInTheEnd(int amount, int tried, int count) {
            int left = amount;
            for (int i = 0; i < count && i < spanTops.length; i++) {
                int repaid = tried - Cents.interestOn(left, terms.rate, spanTops[i], terms.rule, terms.rounding);
                if (repaid > 0) {
                    left -= Math.min(repaid, left);
                }
            }
            return left;
        }
    }
}
