import java.util.NoSuchElementException;

/** Each promise by hand: ordinary inputs, the edges that the document names, and wrong inputs. */
public final class PromiseTest {
    private interface Call {
        long run();
    }

    private static final Class<?> INDEX = IndexOutOfBoundsException.class;
    private static final Class<?> ARGUMENT = IllegalArgumentException.class;
    private static final Class<?> STATE = IllegalStateException.class;
    private static final Class<?> NONE = NoSuchElementException.class;
    private static final int[] NO_LOANS = {-1, 1, 2, 3, Integer.MAX_VALUE, Integer.MIN_VALUE};

    private static int wrong = 0;

    private static void due(String what, long got, long want) {
        if (got != want) {
            wrong++;
            System.out.println(what + " answered " + got + ", due is " + want);
        }
    }

    private static void refused(String what, Class<?> want, Call call) {
        Object got;
        try {
            got = call.run();
        } catch (RuntimeException e) {
            got = e.getClass();
        }
        if (got != want) {
            wrong++;
            System.out.println(what + " gave " + got + ", due is " + want);
        }
    }

    /** A loan without interest, so that its amounts can be told at a glance. */
    private static LoanDesk plain(int principal, int months, boolean steady) {
        LoanDesk x = new LoanDesk();
        x.open(principal, 0, months, 0, 0, steady);
        return x;
    }

    private static void owes(String when, LoanDesk x, int fees, int interest, int principal, int escrow) {
        due(when + ": fees", x.owed(0, 0), fees);
        due(when + ": interest", x.owed(0, 1), interest);
        due(when + ": principal", x.owed(0, 2), principal);
        due(when + ": escrow", x.owed(0, 3), escrow);
    }

    private static void parts(String when, LoanDesk x, int... want) {
        for (int what = 0; what < 6; what++) {
            due(when + ": part " + what, x.part(0, what), want[what]);
        }
    }

    private static void newObject() {
        LoanDesk x = new LoanDesk();
        due("date at first", x.date(), 20000101);
        refused("a loan at first", INDEX, () -> x.principal(0));
        due("the first loan's number", x.open(1, 0, 1, 0, 0, true), 0);
        LoanDesk y = new LoanDesk();
        refused("another object's loan", INDEX, () -> y.principal(0));
    }

    private static void openRefuses() {
        LoanDesk x = new LoanDesk();
        int[][] bad = {
            {0, 0, 1, 0, 0}, {-1, 0, 1, 0, 0}, {100000001, 0, 1, 0, 0},
            {1, -1, 1, 0, 0}, {1, 30001, 1, 0, 0},
            {1, 0, 0, 0, 0}, {1, 0, -1, 0, 0}, {1, 0, 37, 0, 0},
            {1, 0, 1, -1, 0}, {1, 0, 1, 4, 0}, {1, 0, 1, 0, -1}, {1, 0, 1, 0, 4},
        };
        for (int[] b : bad) {
            refused("open with a wrong argument", ARGUMENT, () -> x.open(b[0], b[1], b[2], b[3], b[4], true));
        }
        due("the least loan", x.open(1, 0, 1, 0, 0, false), 0);
        due("the greatest loan", x.open(100000000, 30000, 36, 3, 3, true), 1);
        due("a third loan", x.open(5, 5, 5, 1, 1, false), 2);
        refused("a fourth loan", STATE, () -> x.open(5, 5, 5, 1, 1, false));
        for (int[] b : bad) {
            refused("a wrong fourth loan", ARGUMENT, () -> x.open(b[0], b[1], b[2], b[3], b[4], true));
        }
        refused("loan 3", INDEX, () -> x.principal(3));
    }

    private static void openReckons() {
        due("level of 100 in 3 months", plain(100, 3, true).level(0), 34);
        due("level of 1 in 36 months", plain(1, 36, false).level(0), 1);
        due("level of 100 in 1 month", plain(100, 1, false).level(0), 100);
        LoanDesk x = new LoanDesk();
        x.open(1200000, 6000, 12, 2, 2, true);
        due("level at 6 percent", x.level(0), 103280);
        // Every month's part of a cent counts as 1, so 1 would never pay anything off.
        x.open(1, 1, 36, 0, 1, true);
        due("level with interest rounded up", x.level(1), 2);
        // 100000 at 12 percent, one month of 31 days by actual / 360.
        x.open(100000, 12000, 1, 1, 0, true);
        due("level of one month", x.level(2), 101033);
        due("principal", x.principal(0), 1200000);
        owes("a new loan", x, 0, 0, 0, 0);
        due("accrued of a new loan", x.accrued(0), 0);
        due("escrow of a new loan", x.escrow(0), 0);
        due("deposit of a new loan", x.deposit(0), 0);
        due("bills of a new loan", x.bills(0), 0);
        LoanDesk y = new LoanDesk();
        y.advance(30);
        // From January 31 to February 29 are 29 days by rule 2.
        y.open(360000, 10000, 1, 2, 0, true);
        due("level of a loan of January 31", y.level(0), 362900);
    }

    private static void charge() {
        LoanDesk x = plain(1200, 12, true);
        int[][] twelfths = {{0, 0}, {1, 1}, {11, 1}, {12, 1}, {13, 2}, {1200, 100}, {10000000, 833334}, {1201, 101}};
        for (int[] t : twelfths) {
            x.charge(0, t[0]);
            due("deposit for a charge of " + t[0], x.deposit(0), t[1]);
            due("escrow after a charge of " + t[0], x.escrow(0), 0);
        }
        refused("charge -1", ARGUMENT, () -> { x.charge(0, -1); return 0; });
        refused("charge 10000001", ARGUMENT, () -> { x.charge(0, 10000001); return 0; });
        due("deposit after refusals", x.deposit(0), 101);
        for (int no : NO_LOANS) {
            refused("charge of no loan", INDEX, () -> { x.charge(no, -1); return 0; });
        }
        x.advance(366);
        due("escrow after a year", x.escrow(0), -1201);
        due("deposit after a year", x.deposit(0), 201);
        x.charge(0, 24);
        due("deposit of a charge, whatever the escrow lacks", x.deposit(0), 2);
        due("escrow after a new charge", x.escrow(0), -1201);
    }

    private static void advance() {
        LoanDesk x = new LoanDesk();
        x.open(1200, 0, 12, 0, 0, true);
        x.open(1200, 0, 12, 0, 0, true);
        due("no day", x.advance(0), 0);
        due("up to the day before", x.advance(30), 0);
        due("one due day of two loans", x.advance(1), 2);
        due("two due days of two loans", x.advance(60), 4);
        refused("-1 days", ARGUMENT, () -> x.advance(-1));
        refused("too few days", ARGUMENT, () -> x.advance(Integer.MIN_VALUE));
        refused("one day too many", STATE, () -> x.advance(1410));
        refused("too many days", STATE, () -> x.advance(Integer.MAX_VALUE));
        due("date after refusals", x.date(), 20000401);
        due("bills after refusals", x.bills(0), 3);
        x.advance(1409);
        due("date of day 1500", x.date(), 20040209);
        due("no day on day 1500", x.advance(0), 0);
        refused("a day behind day 1500", STATE, () -> x.advance(1));
        refused("-1 days on day 1500", ARGUMENT, () -> x.advance(-1));
    }

    private static void waterfall() {
        LoanDesk x = new LoanDesk();
        // One cent of interest a day.
        x.open(36500, 1000, 36, 0, 0, true);
        x.charge(0, 1200);
        int level = x.level(0);
        x.advance(31);
        int part = level - 31;
        owes("first bill", x, 0, 31, part, 100);
        x.advance(10);
        int fee = (31 + part + 100) / 20;
        owes("late", x, fee, 31, part, 100);
        due("pay 1", x.pay(0, 1), 0);
        parts("pay 1", x, 1, 0, 0, 0, 0, 0);
        due("pay to interest", x.pay(0, fee), 0);
        parts("pay to interest", x, fee - 1, 1, 0, 0, 0, 0);
        owes("paid to interest", x, 0, 30, part, 100);
        due("pay to principal", x.pay(0, 40), 0);
        parts("pay to principal", x, 0, 30, 10, 0, 0, 0);
        due("principal paid", x.principal(0), 36490);
        due("pay to escrow", x.pay(0, part), 0);
        parts("pay to escrow", x, 0, 0, part - 10, 10, 0, 0);
        due("escrow paid", x.escrow(0), 10);
        due("prepay", x.pay(0, 100), 0);
        parts("prepay", x, 0, 0, 0, 90, 10, 0);
        due("escrow paid whole", x.escrow(0), 100);
        due("principal prepaid", x.principal(0), 36500 - part - 10);
        due("level of a steady loan", x.level(0), level);
        due("rest", x.pay(0, 200000000), 200000000 - 36500 + part + 10);
        parts("rest", x, 0, 0, 0, 0, 36500 - part - 10, 200000000 - 36500 + part + 10);
        due("level of a steady loan paid off", x.level(0), level);
        due("all is rest", x.pay(0, 7), 7);
        parts("all is rest", x, 0, 0, 0, 0, 0, 7);
    }

    private static void prepayments() {
        LoanDesk x = plain(1200, 12, false);
        due("prepay at once", x.pay(0, 600), 0);
        due("level anew", x.level(0), 50);
        x.advance(31);
        due("part by the new level", x.owed(0, 2), 50);
        // On a due day only those behind it count: 330 in 11 months.
        x.pay(0, 270);
        due("principal then", x.principal(0), 330);
        due("level anew on a due day", x.level(0), 30);
        due("pay all", x.pay(0, 331), 1);
        due("level of nothing", x.level(0), 0);

        LoanDesk y = plain(100, 3, false);
        y.advance(31);
        y.pay(0, 34);
        // 66 in 2 months would be 33, but nothing was prepaid.
        due("level after no prepayment", y.level(0), 34);
        y.pay(0, 1);
        due("level after a prepayment", y.level(0), 33);
        LoanDesk whole = plain(100, 3, false);
        whole.advance(31);
        due("pay what is due and all the rest", whole.pay(0, 150), 50);
        parts("pay what is due and all the rest", whole, 0, 0, 34, 0, 66, 50);
        due("principal paid off", whole.principal(0), 0);
        LoanDesk z = plain(100, 3, true);
        z.pay(0, 50);
        due("steady level", z.level(0), 34);
    }

    private static void accruingByPayment() {
        // Half a cent a day, rounded down.
        LoanDesk x = new LoanDesk();
        x.open(18250, 1000, 36, 0, 0, true);
        x.advance(1);
        x.pay(0, 1);
        x.advance(29);
        due("a prepayment accrues before", x.accrued(0), 14);
        // Half a cent a day, rounded up.
        LoanDesk y = new LoanDesk();
        y.open(18250, 1000, 36, 0, 1, true);
        y.advance(32);
        y.pay(0, 16);
        parts("only interest", y, 0, 16, 0, 0, 0, 0);
        y.advance(1);
        due("a payment of interest does not accrue", y.accrued(0), 1);
        y.pay(0, 1);
        y.advance(2);
        due("a payment of principal accrues", y.accrued(0), 2);
        y.advance(1);
        due("a payment of principal accrued", y.accrued(0), 3);
    }

    private static void payRefuses() {
        LoanDesk x = plain(1200, 12, true);
        refused("pay 0", ARGUMENT, () -> x.pay(0, 0));
        refused("pay -1", ARGUMENT, () -> x.pay(0, -1));
        refused("pay too much", ARGUMENT, () -> x.pay(0, 200000001));
        refused("part after refusals", STATE, () -> x.part(0, 0));
        due("principal after refusals", x.principal(0), 1200);
        for (int no : NO_LOANS) {
            refused("pay for no loan", INDEX, () -> x.pay(no, 0));
            refused("part of no loan", INDEX, () -> x.part(no, 6));
        }
        refused("part 6 before a payment", ARGUMENT, () -> x.part(0, 6));
        refused("part -1 before a payment", ARGUMENT, () -> x.part(0, -1));
        due("pay the most", x.pay(0, 200000000), 199998800);
        refused("part 6", ARGUMENT, () -> x.part(0, 6));
        refused("part -1", ARGUMENT, () -> x.part(0, -1));
        x.open(5, 0, 1, 0, 0, true);
        refused("part of an unpaid loan", STATE, () -> x.part(1, 5));
        x.advance(100);
        parts("days later", x, 0, 0, 0, 0, 1200, 199998800);
    }

    private static void dates() {
        int[][] days = {
            {0, 20000101}, {30, 20000131}, {31, 20000201}, {59, 20000229}, {60, 20000301}, {365, 20001231},
            {366, 20010101}, {424, 20010228}, {425, 20010301}, {730, 20011231}, {731, 20020101}, {1095, 20021231},
            {1096, 20030101}, {1460, 20031231}, {1461, 20040101}, {1500, 20040209},
        };
        LoanDesk x = new LoanDesk();
        int today = 0;
        for (int[] d : days) {
            x.advance(d[0] - today);
            today = d[0];
            due("date of day " + today, x.date(), d[1]);
        }
    }

    private static void dueDays() {
        LoanDesk x = new LoanDesk();
        x.open(1, 0, 1, 0, 0, true);
        x.advance(30);
        x.open(1, 0, 1, 0, 0, true);
        x.advance(29);
        x.open(1, 0, 1, 0, 0, true);
        int[][] days = {
            {0, 1, 31}, {0, 2, 60}, {0, 12, 366}, {0, 100, 3043},
            {1, 1, 59}, {1, 2, 90}, {1, 3, 120}, {1, 13, 424}, {1, 37, 1154}, {1, 49, 1520},
            {2, 1, 88}, {2, 12, 424}, {2, 48, 1520},
        };
        for (int[] d : days) {
            due("due day " + d[1] + " of loan " + d[0], x.due(d[0], d[1]), d[2]);
        }
        refused("due day 0", ARGUMENT, () -> x.due(0, 0));
        refused("due day 101", ARGUMENT, () -> x.due(0, 101));
        refused("due day -1", ARGUMENT, () -> x.due(0, -1));
        refused("due day of no loan", INDEX, () -> x.due(3, 0));
        refused("due day of loan -1", INDEX, () -> x.due(-1, 1));
    }

    private static void accrued() {
        LoanDesk x = new LoanDesk();
        x.open(36500, 1000, 36, 0, 0, true);
        x.open(18250, 1000, 36, 0, 1, true);
        x.advance(7);
        due("seven days", x.accrued(0), 7);
        due("seven halves, up", x.accrued(1), 4);
        due("asked again", x.accrued(1), 4);
        x.advance(24);
        due("billed", x.accrued(0), 0);
        x.advance(3);
        due("three days more", x.accrued(0), 3);
        due("what is due stays", x.owed(0, 1), 31);
        x.open(36500, 1000, 36, 0, 0, true);
        due("nothing on the day of opening", x.accrued(2), 0);
        x.advance(5);
        due("five days from the opening on", x.accrued(2), 5);
    }

    private static void readersRefuse() {
        LoanDesk x = plain(1200, 12, true);
        for (int no : NO_LOANS) {
            refused("principal of no loan", INDEX, () -> x.principal(no));
            refused("level of no loan", INDEX, () -> x.level(no));
            refused("accrued of no loan", INDEX, () -> x.accrued(no));
            refused("owed of no loan", INDEX, () -> x.owed(no, 4));
            refused("escrow of no loan", INDEX, () -> x.escrow(no));
            refused("deposit of no loan", INDEX, () -> x.deposit(no));
            refused("bills of no loan", INDEX, () -> x.bills(no));
            refused("bill of no loan", INDEX, () -> x.bill(no, 0, 5));
        }
        refused("owed 4", ARGUMENT, () -> x.owed(0, 4));
        refused("owed -1", ARGUMENT, () -> x.owed(0, -1));
        refused("bill of what -1", ARGUMENT, () -> x.bill(0, 0, -1));
        refused("bill of what 5", ARGUMENT, () -> x.bill(0, 0, 5));
        refused("bill 0 before there is one", NONE, () -> x.bill(0, 0, 0));
        x.advance(31);
        due("bill 0", x.bill(0, 0, 0), 31);
        refused("bill 1", NONE, () -> x.bill(0, 1, 4));
        refused("bill -1", NONE, () -> x.bill(0, -1, 0));
        refused("a bill far off", NONE, () -> x.bill(0, Integer.MAX_VALUE, 0));
        refused("bill 1 of what 5", ARGUMENT, () -> x.bill(0, 1, 5));
    }

    private static void lateFees() {
        // Half cents in the fee: 5.5 and 6.5.
        int[][] fees = {{110, 5, 6, 6, 6}, {130, 6, 7, 7, 6}, {101, 5, 6, 5, 5}, {119, 5, 6, 6, 6}, {120, 6, 6, 6, 6}};
        for (int[] f : fees) {
            for (int rounding = 0; rounding < 4; rounding++) {
                LoanDesk x = new LoanDesk();
                x.open(2 * f[0], 0, 2, 0, rounding, true);
                x.advance(40);
                due("no fee yet", x.owed(0, 0), 0);
                x.advance(1);
                due("fee of " + f[0] + ", rounding " + rounding, x.owed(0, 0), f[1 + rounding]);
                x.advance(18);
                due("no second fee", x.owed(0, 0), f[1 + rounding]);
            }
        }
        LoanDesk x = plain(1200, 12, true);
        x.charge(0, 1200);
        x.advance(41);
        owes("late with escrow", x, 10, 0, 100, 100);
        x.advance(29);
        owes("late again, no fee on the fee", x, 30, 0, 200, 200);
        x.pay(0, 430);
        x.advance(31);
        owes("late with the third alone", x, 10, 0, 100, 100);
        x.advance(29);
        x.pay(0, 410);
        x.advance(1);
        owes("paid in time", x, 0, 0, 0, 0);
    }

    private static void noBillNoFee() {
        LoanDesk x = new LoanDesk();
        x.open(1200, 0, 1, 0, 1, true);
        x.charge(0, 120);
        x.advance(31);
        x.pay(0, 1200);
        owes("only escrow is due", x, 0, 0, 0, 10);
        x.advance(10);
        owes("late with escrow alone", x, 1, 0, 0, 10);
        due("no bill for nothing", x.advance(60), 0);
        owes("no bill, no fee", x, 1, 0, 0, 10);
        x.pay(0, 11);
        due("escrow is paid when the principal is gone", x.escrow(0), 10);
    }

    private static void escrow() {
        LoanDesk x = plain(3600, 36, true);
        x.charge(0, 1200);
        for (int k = 1; k <= 11; k++) {
            x.advance(x.due(0, k) - (k == 1 ? 0 : x.due(0, k - 1)));
            x.pay(0, 200);
        }
        due("escrow of 11 deposits", x.escrow(0), 1100);
        x.advance(31);
        due("escrow after the charge", x.escrow(0), -100);
        due("deposit with what is lacking", x.deposit(0), 109);
        due("the bill has the new deposit", x.bill(0, 11, 4), 109);
        x.pay(0, 209);
        due("escrow after the deposit", x.escrow(0), 9);
        x.charge(0, 0);
        x.advance(365);
        due("escrow after no charge", x.escrow(0), 9);
        due("no deposit", x.deposit(0), 0);
        LoanDesk y = plain(1200, 1, true);
        y.charge(0, 1200);
        y.pay(0, 1200);
        y.advance(366);
        due("a loan paid off is charged", y.escrow(0), -1200);
        due("and its deposit reckoned", y.deposit(0), 200);
        y.advance(365);
        due("each year", y.escrow(0), -2400);
        due("anew", y.deposit(0), 300);
        due("without a bill", y.bills(0), 0);
    }

    private static void billRows(String when, LoanDesk x, int k, int... want) {
        for (int what = 0; what < 5; what++) {
            due(when + ": bill " + k + ", " + what, x.bill(0, k, what), want[what]);
        }
    }

    private static void bills() {
        LoanDesk x = new LoanDesk();
        x.open(36500, 1000, 2, 0, 0, true);
        x.charge(0, 1200);
        int level = x.level(0);
        x.advance(31);
        billRows("first", x, 0, 31, 36500, 31, level - 31, 100);
        x.advance(29);
        billRows("last", x, 1, 60, 36500, 29, 36500 - level + 31, 100);
        x.advance(31);
        billRows("behind the last", x, 2, 91, 36500, 31, 0, 100);
        due("bills", x.bills(0), 3);
        x.advance(10);
        int fees = x.owed(0, 0);
        x.pay(0, fees + 91 + 36500);
        owes("principal paid", x, 0, 0, 0, 300);
        due("a bill for accrued interest alone", x.advance(20), 1);
        billRows("without principal", x, 3, 121, 0, 10, 0, 0);
        due("no bill for nothing", x.advance(100), 0);
        due("bills in the end", x.bills(0), 4);
    }

    private static void billBelowInterest() {
        LoanDesk x = new LoanDesk();
        x.open(1, 1, 36, 0, 1, true);
        x.advance(31);
        billRows("level 2, interest 1", x, 0, 31, 1, 1, 1, 0);
        LoanDesk y = new LoanDesk();
        y.open(100, 30000, 36, 0, 1, false);
        y.advance(30);
        for (int i = 0; i < 9; i++) {
            y.pay(0, 11);
        }
        // One cent is left, with the interest of all before; the level became 2.
        due("principal left", y.principal(0), 1);
        due("level of one cent", y.level(0), 2);
        y.advance(1);
        billRows("interest above the level", y, 0, 31, 1, 4, 0, 0);
    }

    private static void longestRun() {
        LoanDesk x = new LoanDesk();
        x.open(100000000, 30000, 36, 1, 3, false);
        x.advance(1500);
        due("bills of the longest run", x.bills(0), 49);
        due("day of its last bill", x.bill(0, 48, 0), 1492);
        due("principal of its last bill", x.bill(0, 48, 1), 100000000);
    }

    private static void loansApart() {
        LoanDesk x = new LoanDesk();
        x.open(1200, 0, 12, 0, 0, true);
        x.open(2400, 0, 12, 0, 0, true);
        x.charge(1, 24);
        x.pay(1, 5);
        due("principal of the other", x.principal(0), 1200);
        due("deposit of the other", x.deposit(0), 0);
        due("principal of this one", x.principal(1), 2395);
        x.advance(31);
        due("principal due of one", x.owed(0, 2), 100);
        due("principal due of the other", x.owed(1, 2), 200);
        due("escrow due of one", x.owed(0, 3), 0);
        due("escrow due of the other", x.owed(1, 3), 2);
    }

    private static void interest() {
        LoanDesk x = new LoanDesk();
        int[][] rows = {
            // amount, rate, from, to, rule, rounding, answer
            {36500, 1000, 0, 50, 0, 0, 50}, {36000, 1000, 0, 50, 1, 0, 50},
            {36500, 1000, 7, 7, 0, 1, 0}, {0, 30000, 0, 4000, 0, 1, 0}, {100, 0, 0, 4000, 3, 1, 0},
            // half a cent, one and a half, and a little beside them
            {18250, 1000, 0, 1, 0, 0, 0}, {18250, 1000, 0, 1, 0, 1, 1}, {18250, 1000, 0, 1, 0, 2, 1},
            {18250, 1000, 0, 1, 0, 3, 0}, {18250, 1000, 0, 3, 0, 0, 1}, {18250, 1000, 0, 3, 0, 1, 2},
            {18250, 1000, 0, 3, 0, 2, 2}, {18250, 1000, 0, 3, 0, 3, 2}, {18251, 1000, 0, 1, 0, 3, 1},
            {18249, 1000, 0, 1, 0, 2, 0}, {1, 1, 0, 1, 0, 1, 1}, {1, 1, 0, 1, 0, 2, 0},
            // rule 2: January 30 and 31 are the same; February's last days are as far from March as days 28 and 29
            {360000, 1000, 29, 30, 2, 0, 0}, {360000, 1000, 30, 31, 2, 0, 10}, {360000, 1000, 58, 60, 2, 0, 30},
            {360000, 1000, 59, 60, 2, 0, 20}, {360000, 1000, 30, 59, 2, 0, 290}, {360000, 1000, 30, 90, 2, 0, 600},
            {360000, 1000, 0, 366, 2, 0, 3600}, {360000, 1000, 59, 424, 2, 0, 3590}, {360000, 1000, 365, 366, 2, 0, 10},
            // rule 3: years of 366 and of 365 days
            {133590, 1000, 365, 366, 3, 0, 3}, {13359000, 1000, 365, 366, 3, 0, 365}, {13359000, 1000, 366, 367, 3, 0, 366},
            {13359000, 1000, 365, 367, 3, 0, 731}, {13359000, 1000, 1460, 1462, 3, 0, 731},
            {13359000, 1000, 0, 1461, 3, 0, 534360}, {13359000, 1000, 0, 366, 3, 0, 133590},
            {100000000, 30000, 0, 4000, 3, 0, 328520547}, {100000000, 30000, 0, 4000, 1, 1, 333333334},
        };
        for (int[] r : rows) {
            String call = "interest" + java.util.Arrays.toString(r);
            due(call, x.interest(r[0], r[1], r[2], r[3], r[4], r[5]), r[6]);
        }
        int[][] bad = {
            {-1, 0, 0, 1, 0, 0}, {100000001, 0, 0, 1, 0, 0}, {1, -1, 0, 1, 0, 0}, {1, 30001, 0, 1, 0, 0},
            {1, 0, -1, 1, 0, 0}, {1, 0, 4001, 4001, 0, 0}, {1, 0, 0, 4001, 0, 0}, {1, 0, 0, -1, 0, 0},
            {1, 0, 5, 4, 0, 0}, {1, 0, 0, 1, -1, 0}, {1, 0, 0, 1, 4, 0}, {1, 0, 0, 1, 0, -1}, {1, 0, 0, 1, 0, 4},
        };
        for (int[] b : bad) {
            String call = "interest" + java.util.Arrays.toString(b);
            refused(call, ARGUMENT, () -> x.interest(b[0], b[1], b[2], b[3], b[4], b[5]));
        }
        due("on the last day", x.interest(100000000, 30000, 4000, 4000, 3, 1), 0);
    }

    public static void main(String[] args) {
        newObject();
        openRefuses();
        openReckons();
        charge();
        advance();
        waterfall();
        prepayments();
        accruingByPayment();
        payRefuses();
        dates();
        dueDays();
        accrued();
        readersRefuse();
        lateFees();
        noBillNoFee();
        escrow();
        bills();
        billBelowInterest();
        longestRun();
        loansApart();
        interest();
        System.out.println(wrong == 0 ? "all answers are as due" : wrong + " answers are not as due");
        if (wrong != 0) {
            System.exit(1);
        }
    }
}
