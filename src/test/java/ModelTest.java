import java.math.BigInteger;
import java.time.LocalDate;
import java.time.YearMonth;
import java.time.temporal.ChronoUnit;
import java.util.ArrayList;
import java.util.List;
import java.util.NoSuchElementException;
import java.util.Random;

/**
 * Runs of calls on LoanDesk and on a model that follows the document's words one by one, without
 * thought of speed, with java.time for the days and BigInteger for the fractions.
 * The seeds are fixed, so that the runs are the same each time.
 */
public final class ModelTest {
    private static final int RUNS = 1500;
    private static final int CALLS = 500;
    private static final LocalDate DAY_0 = LocalDate.of(2000, 1, 1);

    private interface Call {
        long run();
    }

    private static final class ModelLoan {
        int opened;
        int rate;
        int months;
        int rule;
        int rounding;
        boolean steady;
        long principal;
        long level;
        long accrued;
        int accruedUpTo;
        long[] due = new long[4];
        long escrow;
        long charge;
        long deposit;
        long[] parts = null;
        List<long[]> bills = new ArrayList<>();
    }

    private static final class Model {
        int today = 0;
        final List<ModelLoan> loans = new ArrayList<>();

        static LocalDate dateOf(int day) {
            return DAY_0.plusDays(day);
        }

        static int dueDay(ModelLoan l, int k) {
            LocalDate opening = dateOf(l.opened);
            YearMonth month = YearMonth.from(opening).plusMonths(k);
            int number = Math.min(opening.getDayOfMonth(), month.lengthOfMonth());
            return (int) ChronoUnit.DAYS.between(DAY_0, month.atDay(number));
        }

        /** The span times 365 * 366 * 360. */
        static long span(int rule, int a, int b) {
            if (rule == 0) {
                return (b - a) * 366L * 360;
            }
            if (rule == 1) {
                return (b - a) * 365L * 366;
            }
            LocalDate from = dateOf(a);
            LocalDate to = dateOf(b);
            if (rule == 2) {
                int y = to.getYear() - from.getYear();
                int m = to.getMonthValue() - from.getMonthValue();
                int d = Math.min(30, to.getDayOfMonth()) - Math.min(30, from.getDayOfMonth());
                return (360 * y + 30 * m + d) * 365L * 366;
            }
            long sum = 0;
            for (LocalDate d = from; d.isBefore(to); d = d.plusDays(1)) {
                sum += (d.isLeapYear() ? 365L : 366L) * 360;
            }
            return sum;
        }

        static long rounded(BigInteger top, BigInteger bottom, int rounding) {
            BigInteger[] parts = top.divideAndRemainder(bottom);
            long down = parts[0].longValueExact();
            if (parts[1].signum() == 0 || rounding == 0) {
                return down;
            }
            int half = parts[1].shiftLeft(1).compareTo(bottom);
            if (rounding == 1 || half > 0) {
                return down + 1;
            }
            if (half < 0) {
                return down;
            }
            return rounding == 2 || down % 2 != 0 ? down + 1 : down;
        }

        static long interest(long amount, int rate, long span, int rounding) {
            BigInteger top = BigInteger.valueOf(amount).multiply(BigInteger.valueOf(rate)).multiply(BigInteger.valueOf(span));
            return rounded(top, BigInteger.valueOf(365L * 366 * 360).multiply(BigInteger.valueOf(100000)), rounding);
        }

        static long left(ModelLoan l, long amount, long[] spans, long level) {
            long left = amount;
            for (long span : spans) {
                long less = level - interest(left, l.rate, span, l.rounding);
                if (less > 0) {
                    left -= Math.min(less, left);
                }
            }
            return left;
        }

        long[] spansBehindToday(ModelLoan l) {
            List<Long> spans = new ArrayList<>();
            int before = today;
            for (int k = 1; k <= l.months; k++) {
                int day = dueDay(l, k);
                if (day > today) {
                    spans.add(span(l.rule, before, day));
                    before = day;
                }
            }
            return spans.stream().mapToLong(s -> s).toArray();
        }

        /** For small amounts every level from 0 on is tried; else the steps become finer down to 1. */
        void reckon(ModelLoan l, long amount) {
            if (amount == 0) {
                l.level = 0;
                return;
            }
            long[] spans = spansBehindToday(l);
            if (spans.length == 0) {
                return;
            }
            long level = 0;
            for (long step = amount < 3000 ? 1 : 1L << 28; step > 0; step /= 2) {
                while (left(l, amount, spans, level + step - 1) > 0) {
                    level += step;
                }
            }
            l.level = level;
        }

        long accruedNow(ModelLoan l) {
            return l.accrued + interest(l.principal, l.rate, span(l.rule, l.accruedUpTo, today), l.rounding);
        }

        void accrue(ModelLoan l) {
            l.accrued = accruedNow(l);
            l.accruedUpTo = today;
        }

        ModelLoan loan(int number) {
            if (number < 0 || number >= loans.size()) {
                throw new IndexOutOfBoundsException();
            }
            return loans.get(number);
        }

        static void ask(boolean allowed) {
            if (!allowed) {
                throw new IllegalArgumentException();
            }
        }

        long open(int principal, int rate, int months, int rule, int rounding, boolean steady) {
            ask(principal >= 1 && principal <= 100000000 && rate >= 0 && rate <= 30000);
            ask(months >= 1 && months <= 36 && rule >= 0 && rule <= 3 && rounding >= 0 && rounding <= 3);
            if (loans.size() == 3) {
                throw new IllegalStateException();
            }
            ModelLoan l = new ModelLoan();
            l.opened = today;
            l.accruedUpTo = today;
            l.principal = principal;
            l.rate = rate;
            l.months = months;
            l.rule = rule;
            l.rounding = rounding;
            l.steady = steady;
            reckon(l, principal);
            loans.add(l);
            return loans.size() - 1;
        }

        long charge(int number, int charge) {
            ModelLoan l = loan(number);
            ask(charge >= 0 && charge <= 10000000);
            l.charge = charge;
            l.deposit = rounded(BigInteger.valueOf(charge), BigInteger.valueOf(12), 1);
            return 0;
        }

        long advance(int days) {
            ask(days >= 0);
            if ((long) today + days > 1500) {
                throw new IllegalStateException();
            }
            long made = 0;
            for (int i = 0; i < days; i++) {
                today++;
                for (ModelLoan l : loans) {
                    made += day(l);
                }
            }
            return made;
        }

        int day(ModelLoan l) {
            for (long[] bill : l.bills) {
                long late = l.due[1] + l.due[2] + l.due[3];
                if (bill[0] + 10 == today && late > 0) {
                    l.due[0] += rounded(BigInteger.valueOf(late), BigInteger.valueOf(20), l.rounding);
                }
            }
            for (int k = 1; k <= 50; k++) {
                if (dueDay(l, k) == today) {
                    return dueDayComes(l, k);
                }
            }
            return 0;
        }

        int dueDayComes(ModelLoan l, int k) {
            if (k % 12 == 0) {
                l.escrow -= l.charge;
                long lacking = l.escrow < 0 ? -l.escrow : 0;
                l.deposit = rounded(BigInteger.valueOf(l.charge + lacking), BigInteger.valueOf(12), 1);
            }
            accrue(l);
            if (!(l.principal > 0) && !(l.accrued > 0)) {
                return 0;
            }
            long interest = l.accrued;
            l.accrued = 0;
            long notDue = l.principal - l.due[2];
            long part = interest < l.level ? Math.min(l.level - interest, notDue) : 0;
            if (k >= l.months) {
                part = notDue;
            }
            long deposit = l.principal > 0 ? l.deposit : 0;
            l.due[1] += interest;
            l.due[2] += part;
            l.due[3] += deposit;
            l.bills.add(new long[] {today, l.principal, interest, part, deposit});
            return 1;
        }

        long pay(int number, int cents) {
            ModelLoan l = loan(number);
            ask(cents >= 1 && cents <= 200000000);
            l.parts = new long[6];
            long left = cents;
            for (int what = 0; what < 4; what++) {
                long goes = Math.min(left, l.due[what]);
                if (what == 2 && goes > 0) {
                    accrue(l);
                    l.principal -= goes;
                }
                if (what == 3) {
                    l.escrow += goes;
                }
                l.due[what] -= goes;
                l.parts[what] = goes;
                left -= goes;
            }
            long prepaid = Math.min(left, l.principal);
            l.parts[4] = prepaid;
            l.parts[5] = left - prepaid;
            if (prepaid > 0) {
                accrue(l);
                l.principal -= prepaid;
                if (!l.steady) {
                    reckon(l, l.principal - l.due[2]);
                }
            }
            return l.parts[5];
        }

        long part(int number, int what) {
            ModelLoan l = loan(number);
            ask(what >= 0 && what <= 5);
            if (l.parts == null) {
                throw new IllegalStateException();
            }
            return l.parts[what];
        }

        long date() {
            LocalDate d = dateOf(today);
            return 10000L * d.getYear() + 100L * d.getMonthValue() + d.getDayOfMonth();
        }

        long due(int number, int k) {
            ModelLoan l = loan(number);
            ask(k >= 1 && k <= 100);
            return dueDay(l, k);
        }

        long owed(int number, int what) {
            ModelLoan l = loan(number);
            ask(what >= 0 && what <= 3);
            return l.due[what];
        }

        long bill(int number, int k, int what) {
            ModelLoan l = loan(number);
            ask(what >= 0 && what <= 4);
            if (k < 0 || k >= l.bills.size()) {
                throw new NoSuchElementException();
            }
            return l.bills.get(k)[what];
        }

        long interest(int amount, int rate, int from, int to, int rule, int rounding) {
            ask(amount >= 0 && amount <= 100000000 && rate >= 0 && rate <= 30000);
            ask(from >= 0 && from <= 4000 && to >= from && to <= 4000);
            ask(rule >= 0 && rule <= 3 && rounding >= 0 && rounding <= 3);
            return interest(amount, rate, span(rule, from, to), rounding);
        }
    }

    private static int wrong = 0;

    private static String answer(Call call) {
        try {
            return Long.toString(call.run());
        } catch (RuntimeException e) {
            return "throws." + e.getClass().getSimpleName();
        }
    }

    private final int run;
    private final Random random;
    private final LoanDesk desk = new LoanDesk();
    private final Model model = new Model();
    private final StringBuilder history = new StringBuilder();
    private int calls = 0;
    private boolean failed = false;

    private ModelTest(int run) {
        this.run = run;
        this.random = new Random(run);
    }

    private void same(String call, Call program, Call due) {
        calls++;
        String got = answer(program);
        String want = answer(due);
        if (!got.equals(want)) {
            failed = true;
            wrong++;
            System.out.println("run " + run + ": " + history + call + " answered " + got + ", due is " + want);
        }
    }

    private int between(int least, int most) {
        return least + random.nextInt(most - least + 1);
    }

    private boolean chance(int oneIn) {
        return random.nextInt(oneIn) == 0;
    }

    /** Mostly within the bounds, often at them, now and then just outside. */
    private int around(int least, int most) {
        switch (random.nextInt(40)) {
            case 0:
                return least - 1;
            case 1:
                return most + 1;
            case 2:
            case 3:
            case 4:
                return least;
            case 5:
            case 6:
            case 7:
                return most;
            case 8:
                return chance(8) ? Integer.MIN_VALUE : between(least, most);
            case 9:
                return chance(8) ? Integer.MAX_VALUE : between(least, most);
            default:
                return between(least, most);
        }
    }

    private int amount(int most) {
        int kind = random.nextInt(10);
        if (kind < 1) {
            return around(1, most);
        }
        int digits = between(1, 8);
        int bound = 1;
        for (int i = 0; i < digits; i++) {
            bound *= 10;
        }
        return between(1, Math.min(bound, most));
    }

    private int number() {
        int count = model.loans.size();
        return count == 0 || chance(60) ? between(-1, 3) : between(0, count - 1);
    }

    private void open() {
        int principal = amount(100000000);
        int rate = chance(6) ? 0 : around(0, 30000);
        int months = chance(2) ? between(1, 6) : around(1, 36);
        int rule = around(0, 3);
        int rounding = around(0, 3);
        boolean steady = random.nextBoolean();
        String call = "open(" + principal + ", " + rate + ", " + months + ", " + rule + ", " + rounding + ", " + steady + ")";
        same(call, () -> desk.open(principal, rate, months, rule, rounding, steady),
            () -> model.open(principal, rate, months, rule, rounding, steady));
        history.append(call).append("; ");
    }

    private int daysToGo() {
        switch (random.nextInt(6)) {
            case 0:
                return around(0, 40);
            case 1:
                return 1;
            case 2:
                return 10;
            case 3:
                return between(28, 31);
            case 4:
                return model.loans.isEmpty() ? 15 : daysToSomeDueDay();
            default:
                return chance(30) ? between(0, 1600) : between(0, 12);
        }
    }

    private int daysToSomeDueDay() {
        ModelLoan l = model.loans.get(random.nextInt(model.loans.size()));
        for (int k = 1; k <= 60; k++) {
            int day = Model.dueDay(l, k);
            if (day > model.today) {
                return day - model.today;
            }
        }
        return 0;
    }

    private void advance() {
        int days = daysToGo();
        String call = "advance(" + days + ")";
        same(call, () -> desk.advance(days), () -> model.advance(days));
        history.append(call).append("; ");
    }

    private int centsFor(int number) {
        if (number < 0 || number >= model.loans.size() || chance(10)) {
            return amount(200000000);
        }
        ModelLoan l = model.loans.get(number);
        long sum = 0;
        int upTo = random.nextInt(5);
        for (int what = 0; what < upTo && what < 4; what++) {
            sum += l.due[what];
        }
        int kind = random.nextInt(6);
        if (kind == 0) {
            sum += l.principal - l.due[2];
        } else if (kind == 1) {
            sum += l.principal / between(2, 40);
        } else if (kind == 2) {
            sum += between(-2, 2);
        } else if (kind == 3) {
            sum = sum * between(1, 99) / 100;
        }
        return (int) Math.max(chance(20) ? 0 : 1, Math.min(sum, 200000000));
    }

    private void pay() {
        int number = number();
        int cents = centsFor(number);
        String call = "pay(" + number + ", " + cents + ")";
        same(call, () -> desk.pay(number, cents), () -> model.pay(number, cents));
        history.append(call).append("; ");
    }

    private void charge() {
        int number = number();
        int charge = chance(2) ? around(0, 10000000) : between(0, 5000);
        String call = "charge(" + number + ", " + charge + ")";
        same(call, () -> { desk.charge(number, charge); return 0; }, () -> model.charge(number, charge));
        history.append(call).append("; ");
    }

    private void interest() {
        int amount = chance(2) ? around(0, 100000000) : amount(100000000);
        int rate = around(0, 30000);
        int from = chance(2) ? between(0, 800) : around(0, 4000);
        int to = chance(2) ? from + between(-1, 70) : around(0, 4000);
        int rule = around(0, 3);
        int rounding = around(0, 3);
        String call = "interest(" + amount + ", " + rate + ", " + from + ", " + to + ", " + rule + ", " + rounding + ")";
        same(call, () -> desk.interest(amount, rate, from, to, rule, rounding),
            () -> model.interest(amount, rate, from, to, rule, rounding));
    }

    private void look() {
        int number = number();
        int what = around(0, 5);
        int k = chance(2) ? around(0, 50) : between(-1, 3);
        switch (random.nextInt(11)) {
            case 0:
                same("date()", () -> desk.date(), () -> model.date());
                break;
            case 1:
                int nth = around(1, 100);
                same("due(" + number + ", " + nth + ")", () -> desk.due(number, nth), () -> model.due(number, nth));
                break;
            case 2:
                same("principal(" + number + ")", () -> desk.principal(number), () -> model.loan(number).principal);
                break;
            case 3:
                same("level(" + number + ")", () -> desk.level(number), () -> model.loan(number).level);
                break;
            case 4:
                same("accrued(" + number + ")", () -> desk.accrued(number), () -> model.accruedNow(model.loan(number)));
                break;
            case 5:
                same("owed(" + number + ", " + what + ")", () -> desk.owed(number, what), () -> model.owed(number, what));
                break;
            case 6:
                same("escrow(" + number + ")", () -> desk.escrow(number), () -> model.loan(number).escrow);
                break;
            case 7:
                same("deposit(" + number + ")", () -> desk.deposit(number), () -> model.loan(number).deposit);
                break;
            case 8:
                same("bills(" + number + ")", () -> desk.bills(number), () -> model.loan(number).bills.size());
                break;
            case 9:
                same("bill(" + number + ", " + k + ", " + what + ")",
                    () -> desk.bill(number, k, what), () -> model.bill(number, k, what));
                break;
            default:
                same("part(" + number + ", " + what + ")", () -> desk.part(number, what), () -> model.part(number, what));
                break;
        }
    }

    private void change() {
        int kind = random.nextInt(20);
        if (model.loans.isEmpty() && chance(2) || kind == 0) {
            open();
        } else if (kind < 10) {
            advance();
        } else if (kind < 17) {
            pay();
        } else if (kind < 18) {
            charge();
        } else {
            interest();
        }
    }

    private void go() {
        while (calls < CALLS && !failed) {
            change();
            for (int i = between(0, 4); i > 0 && calls < CALLS && !failed; i--) {
                look();
            }
        }
    }

    public static void main(String[] args) {
        int runs = args.length > 0 ? Integer.parseInt(args[0]) : RUNS;
        for (int run = 1; run <= runs && wrong < 5; run++) {
            new ModelTest(run).go();
        }
        System.out.println(wrong == 0 ? "all answers are as due" : wrong + " runs went wrong");
        if (wrong != 0) {
            System.exit(1);
        }
    }
}
