import java.util.ArrayList;
import java.util.Arrays;
import java.util.List;
import java.util.function.IntFunction;

/** Each boundary case that a sentence of the document names, in a case of its own that bears its words. */
public final class BoundaryTest {
    private interface Call {
        long run();
    }

    private interface Use {
        long on(LoanDesk x);
    }

    private interface Body {
        void run();
    }

    private static final String INDEX = "IndexOutOfBoundsException";
    private static final String ARGUMENT = "IllegalArgumentException";
    private static final String STATE = "IllegalStateException";
    private static final String NONE = "NoSuchElementException";
    private static final int LOW = Integer.MIN_VALUE;
    private static final int HIGH = Integer.MAX_VALUE;

    private static String sentence = "";
    private static int cases = 0;
    private static int wrong = 0;

    private static void testCase(String words, Body body) {
        sentence = words;
        cases++;
        try {
            body.run();
        } catch (RuntimeException e) {
            report("the case came to " + e);
        }
    }

    private static void report(String what) {
        wrong++;
        System.out.println(sentence + ": " + what);
    }

    private static void due(String what, long got, long want) {
        if (got != want) {
            report(what + " answered " + got + ", due is " + want);
        }
    }

    private static String answer(Call call) {
        try {
            return Long.toString(call.run());
        } catch (RuntimeException e) {
            return e.getClass().getSimpleName();
        }
    }

    private static void refused(String what, String want, Call call) {
        String got = answer(call);
        if (!got.equals(want)) {
            report(what + " gave " + got + ", due is " + want);
        }
    }

    private static LoanDesk deskOn(int day) {
        LoanDesk x = new LoanDesk();
        x.advance(day);
        return x;
    }

    /** A loan without interest, so that its amounts can be told at a glance. */
    private static LoanDesk plain(int principal, int months, int rounding, boolean steady) {
        LoanDesk x = new LoanDesk();
        x.open(principal, 0, months, 0, rounding, steady);
        return x;
    }

    /** A loan that bears one cent of interest a day as long as nothing is paid. */
    private static LoanDesk centADay(int months, int rounding, boolean steady) {
        LoanDesk x = new LoanDesk();
        x.open(36500, 1000, months, 0, rounding, steady);
        return x;
    }

    private static void owes(String when, LoanDesk x, int fees, int interest, int principal, int escrow) {
        int[] want = {fees, interest, principal, escrow};
        for (int what = 0; what < 4; what++) {
            due(when + ": owed " + what, x.owed(0, what), want[what]);
        }
    }

    private static void parts(String when, LoanDesk x, int... want) {
        for (int what = 0; what < 6; what++) {
            due(when + ": part " + what, x.part(0, what), want[what]);
        }
    }

    private static void bill(String when, LoanDesk x, int k, int... want) {
        for (int what = 0; what < 5; what++) {
            due(when + ": bill " + k + ", " + what, x.bill(0, k, what), want[what]);
        }
    }

    // ---- Terms: days

    private static void calendar() {
        testCase("Day 0 is January 1, 2000", () -> due("date", new LoanDesk().date(), 20000101));
        testCase("Years that 4 divides have February 29", () -> {
            int[][] dates = {{58, 20000228}, {59, 20000229}, {60, 20000301}};
            for (int[] d : dates) {
                due("date of day " + d[0], deskOn(d[0]).date(), d[1]);
            }
            LoanDesk x = deskOn(28);
            x.open(1, 0, 1, 0, 0, true);
            due("February 29, 2004", x.due(0, 49), 1520);
            due("March 29, 2004", x.due(0, 50), 1549);
            due("February 29, 2008", x.due(0, 97), 2981);
            due("March 29, 2008", x.due(0, 98), 3010);
        });
        testCase("There are no other February 29", () -> {
            int[][] dates = {{424, 20010228}, {425, 20010301}, {789, 20020228}, {790, 20020301}, {1154, 20030228},
                {1155, 20030301}};
            for (int[] d : dates) {
                due("date of day " + d[0], deskOn(d[0]).date(), d[1]);
            }
            LoanDesk x = deskOn(28);
            x.open(1, 0, 1, 0, 0, true);
            due("February 28, 2005", x.due(0, 61), 1885);
            due("February 28, 2007", x.due(0, 85), 2615);
        });
        testCase("Months and years end where the usual calendar ends them", () -> {
            int[][] dates = {
                {30, 20000131}, {31, 20000201}, {90, 20000331}, {91, 20000401}, {120, 20000430}, {121, 20000501},
                {151, 20000531}, {152, 20000601}, {181, 20000630}, {182, 20000701}, {212, 20000731}, {213, 20000801},
                {243, 20000831}, {244, 20000901}, {273, 20000930}, {274, 20001001}, {304, 20001031}, {305, 20001101},
                {334, 20001130}, {335, 20001201}, {365, 20001231}, {366, 20010101}, {730, 20011231}, {731, 20020101},
                {1095, 20021231}, {1096, 20030101}, {1460, 20031231}, {1461, 20040101},
            };
            for (int[] d : dates) {
                due("date of day " + d[0], deskOn(d[0]).date(), d[1]);
            }
        });
        testCase("Today is at most 1500", () -> {
            due("date of day 1500", deskOn(1500).date(), 20040209);
            refused("day 1501 at once", STATE, () -> new LoanDesk().advance(1501));
            LoanDesk x = deskOn(1499);
            refused("day 1501 from day 1499", STATE, () -> x.advance(2));
            due("day 1500 from day 1499", x.advance(1), 0);
            refused("day 1501 from day 1500", STATE, () -> x.advance(1));
            due("date", x.date(), 20040209);
        });
        testCase("A loan can be opened on day 1500", () -> {
            LoanDesk x = deskOn(1500);
            due("number", x.open(360000, 10000, 1, 2, 0, true), 0);
            due("level", x.level(0), 363000);
            due("first due day", x.due(0, 1), 1529);
            due("100th due day", x.due(0, 100), 4543);
            due("prepayment", x.pay(0, 360001), 1);
        });
    }

    private static void loans() {
        testCase("There are at most 3 loans, 0, 1, 2", () -> {
            LoanDesk x = new LoanDesk();
            for (int number = 0; number < 3; number++) {
                int n = number;
                refused("loan " + n + " before it is opened", INDEX, () -> x.principal(n));
                due("number", x.open(number + 1, 0, 1, 0, 0, true), number);
                due("principal of loan " + number, x.principal(number), number + 1);
            }
            refused("a fourth loan", STATE, () -> x.open(4, 0, 1, 0, 0, true));
            refused("loan 3", INDEX, () -> x.principal(3));
        });
        testCase("A loan that is paid off still counts among the 3", () -> {
            LoanDesk x = new LoanDesk();
            for (int number = 0; number < 3; number++) {
                x.open(1, 0, 1, 0, 0, true);
                x.pay(number, 1);
            }
            refused("a fourth loan", STATE, () -> x.open(1, 0, 1, 0, 0, true));
        });
    }

    private static void dueDaysOf(int opened, int[][] want) {
        LoanDesk x = deskOn(opened);
        x.open(1200, 0, 36, 0, 0, true);
        for (int[] w : want) {
            due("due day " + w[0] + " of a loan opened on day " + opened, x.due(0, w[0]), w[1]);
        }
    }

    private static void dueDays() {
        testCase("A due day has the same number in its month", () -> {
            dueDaysOf(0, new int[][] {{1, 31}, {2, 60}, {12, 366}, {100, 3043}});
            dueDaysOf(27, new int[][] {{1, 58}, {2, 87}, {13, 424}});
        });
        testCase("Or it is the last one of the month if that is shorter", () -> {
            dueDaysOf(28, new int[][] {{1, 59}, {13, 424}});
            dueDaysOf(29, new int[][] {{1, 59}, {13, 424}});
            dueDaysOf(30, new int[][] {{1, 59}, {3, 120}, {5, 181}, {8, 273}, {10, 334}, {13, 424}});
        });
        testCase("The month after a shorter one has the number of the opening again", () -> {
            dueDaysOf(28, new int[][] {{2, 88}, {14, 453}});
            dueDaysOf(29, new int[][] {{2, 89}, {14, 454}});
            dueDaysOf(30, new int[][] {{2, 90}, {4, 151}, {6, 212}, {7, 243}, {14, 455}});
        });
        testCase("A loan opened on February 29", () ->
            dueDaysOf(59, new int[][] {{1, 88}, {12, 424}, {13, 453}, {24, 789}, {36, 1154}, {48, 1520}, {96, 2981}}));
        testCase("Due days go on into the next year", () -> {
            dueDaysOf(365, new int[][] {{1, 396}, {2, 424}, {12, 730}, {13, 761}});
            dueDaysOf(334, new int[][] {{1, 364}, {2, 395}, {3, 424}, {4, 454}});
        });
        testCase("A bill is made on the last day of the shorter month, not before and not behind", () -> {
            LoanDesk x = deskOn(30);
            x.open(1200, 0, 12, 0, 0, true);
            due("to February 28", x.advance(28), 0);
            due("to February 29", x.advance(1), 1);
            due("to March 30", x.advance(30), 0);
            due("to March 31", x.advance(1), 1);
            due("day of the second bill", x.bill(0, 1, 0), 90);
        });
    }

    // ---- Terms: spans and interest

    private static void spans(int amount, int rule, int[][] want) {
        LoanDesk x = new LoanDesk();
        for (int[] w : want) {
            due("rule " + rule + " from " + w[0] + " to " + w[1], x.interest(amount, 1000, w[0], w[1], rule, 0), w[2]);
        }
    }

    private static void spanRules() {
        testCase("Rule 0: (b - a) / 365", () ->
            spans(36500, 0, new int[][] {{7, 7, 0}, {58, 60, 2}, {365, 366, 1}, {0, 366, 366}, {0, 4000, 4000}}));
        testCase("Rule 1: (b - a) / 360", () ->
            spans(36000, 1, new int[][] {{7, 7, 0}, {58, 60, 2}, {365, 366, 1}, {0, 366, 366}, {0, 4000, 4000}}));
        testCase("Rule 2: a number 31 counts as 30 at a", () ->
            spans(36000, 2, new int[][] {{30, 31, 1}, {30, 59, 29}, {30, 89, 60}, {365, 366, 1}, {90, 120, 30}}));
        testCase("Rule 2: a number 31 counts as 30 at b", () ->
            spans(36000, 2, new int[][] {{29, 30, 0}, {0, 30, 29}, {59, 90, 31}, {29, 90, 60}, {364, 365, 0}}));
        testCase("Rule 2: a number 31 counts as 30 in both", () ->
            spans(36000, 2, new int[][] {{30, 30, 0}, {30, 90, 60}, {30, 365, 330}, {365, 396, 30}}));
        testCase("Rule 2: the last days of February count by their numbers", () ->
            spans(36000, 2, new int[][] {{58, 59, 1}, {59, 60, 2}, {58, 60, 3}, {424, 425, 3}, {59, 424, 359},
                {1519, 1521, 3}, {1520, 1521, 2}}));
        testCase("Rule 2: a month and a number may be less at b than at a", () ->
            spans(36000, 2, new int[][] {{335, 366, 30}, {364, 366, 1}, {334, 367, 32}, {0, 366, 360}, {0, 4000, 3943}}));
        testCase("Rule 3: 1 / 366 for days in years of 366 days, 1 / 365 for others", () ->
            spans(13359000, 3, new int[][] {{0, 1, 365}, {59, 60, 365}, {366, 367, 366}, {1460, 1461, 366},
                {1461, 1462, 365}, {1826, 1827, 365}, {1827, 1828, 366}, {2921, 2922, 366}, {2922, 2923, 365},
                {3287, 3288, 365}, {3288, 3289, 366}}));
        testCase("Rule 3: the days from a on that are before b", () ->
            spans(13359000, 3, new int[][] {{7, 7, 0}, {365, 366, 365}, {365, 367, 731}, {366, 366, 0},
                {0, 366, 133590}, {366, 731, 133590}, {0, 1461, 534360}, {1460, 1462, 731}}));
    }

    /** Of as many half cents: one day is one half. */
    private static void halves(int rounding, int[][] want) {
        LoanDesk x = new LoanDesk();
        for (int[] w : want) {
            due(w[0] + " halves, rounding " + rounding, x.interest(18250, 1000, 0, w[0], 0, rounding), w[1]);
        }
    }

    private static void oneDay(int rounding, int[][] want) {
        LoanDesk x = new LoanDesk();
        for (int[] w : want) {
            due(w[0] + " for a day, rounding " + rounding, x.interest(w[0], 1000, 0, 1, 0, rounding), w[1]);
        }
    }

    private static void roundings() {
        testCase("Rounding 0: down", () -> {
            halves(0, new int[][] {{0, 0}, {1, 0}, {2, 1}, {3, 1}, {4, 2}, {5, 2}});
            oneDay(0, new int[][] {{1, 0}, {36499, 0}, {36500, 1}, {36501, 1}, {72999, 1}});
        });
        testCase("Rounding 1: up, if there is a part of a cent at all", () -> {
            halves(1, new int[][] {{0, 0}, {1, 1}, {2, 1}, {3, 2}, {4, 2}, {5, 3}});
            oneDay(1, new int[][] {{0, 0}, {1, 1}, {36499, 1}, {36500, 1}, {36501, 2}});
            due("the least part of a cent", new LoanDesk().interest(1, 1, 0, 1, 3, 1), 1);
        });
        testCase("Rounding 2: to the nearest, halves up", () -> {
            halves(2, new int[][] {{0, 0}, {1, 1}, {2, 1}, {3, 2}, {4, 2}, {5, 3}});
            oneDay(2, new int[][] {{18249, 0}, {18250, 1}, {18251, 1}, {54749, 1}, {54750, 2}, {54751, 2}});
        });
        testCase("Rounding 3: to the nearest, halves to the even one", () -> {
            halves(3, new int[][] {{0, 0}, {1, 0}, {2, 1}, {3, 2}, {4, 2}, {5, 2}, {7, 4}});
            oneDay(3, new int[][] {{18249, 0}, {18250, 0}, {18251, 1}, {54749, 1}, {54750, 2}, {54751, 2}});
        });
    }

    // ---- Terms: the level

    private static void levels() {
        testCase("The level is the least amount with which nothing is left in the end", () -> {
            int[][] want = {{99, 3, 33}, {100, 3, 34}, {102, 3, 34}, {103, 3, 35}, {1, 1, 1}, {1, 36, 1}, {36, 36, 1},
                {37, 36, 2}, {100000000, 36, 2777778}, {100000000, 1, 100000000}};
            for (int[] w : want) {
                due("level of " + w[0] + " in " + w[1], plain(w[0], w[1], 0, true).level(0), w[2]);
            }
        });
        testCase("The level pays the interest first, be it rounded up out of almost nothing", () -> {
            LoanDesk x = new LoanDesk();
            x.open(1, 1, 36, 0, 1, true);
            due("level of 1 with interest 1", x.level(0), 2);
            x.open(1, 1, 36, 0, 0, true);
            due("level of 1 with interest 0", x.level(1), 1);
        });
        testCase("The first span is from the day of reckoning", () -> {
            LoanDesk x = new LoanDesk();
            x.open(36500, 1000, 1, 0, 0, false);
            due("level of 31 days", x.level(0), 36531);
            x.advance(30);
            x.pay(0, 18250);
            due("level of half the amount and one day, the half cent left out", x.level(0), 18250);
            LoanDesk y = new LoanDesk();
            y.open(73000, 1000, 1, 0, 0, false);
            y.advance(30);
            y.pay(0, 36500);
            due("level of one day", y.level(0), 36501);
        });
        testCase("The spans behind the first are from the due day before", () -> {
            // 31 days bear 31 cents, which leaves 18258; on these 29 days bear 14 cents.
            // With 18272 there would be 18259 left, and one cent of them in the end.
            due("level", centADay(2, 0, true).level(0), 18273);
        });
        testCase("The level is 0 when the amount is 0", () -> {
            LoanDesk x = plain(1200, 12, 0, false);
            due("rest", x.pay(0, 1200), 0);
            due("level", x.level(0), 0);
            LoanDesk y = plain(1200, 12, 0, false);
            y.advance(366);
            y.pay(0, 1200);
            due("no level is reckoned when all was due", y.level(0), 100);
        });
        testCase("The level of an amount 1 is not 0", () -> {
            LoanDesk x = plain(1200, 12, 0, false);
            x.pay(0, 1199);
            due("level", x.level(0), 1);
        });
        testCase("When there is no such due day the level stays as it was", () -> {
            LoanDesk x = plain(1200, 1, 0, false);
            x.advance(31);
            due("rest on the last due day", x.pay(0, 1300), 100);
            due("level on the last due day", x.level(0), 1200);
            x.advance(1);
            due("rest behind the last due day", x.pay(0, 1), 1);
            due("level behind the last due day", x.level(0), 1200);
        });
        testCase("Only the due days behind today count", () -> {
            LoanDesk x = plain(1200, 12, 0, false);
            x.advance(30);
            x.pay(0, 12);
            due("a day before the first: 12 months", x.level(0), 99);
            LoanDesk y = plain(1200, 12, 0, false);
            y.advance(31);
            y.pay(0, 101);
            due("on the first: 11 months", y.level(0), 100);
            y.pay(0, 10);
            due("on the first, 1089 in 11 months", y.level(0), 99);
            LoanDesk z = plain(1200, 2, 0, false);
            z.advance(59);
            due("principal and fee due", z.owed(0, 0) + z.owed(0, 2), 630);
            z.pay(0, 830);
            due("the last one alone", z.level(0), 400);
        });
    }

    // ---- Terms: accruing, days, bills

    private static void accruing() {
        testCase("All but the principal are 0 at first", () -> {
            LoanDesk x = deskOn(100);
            x.open(1200, 30000, 12, 3, 1, false);
            due("principal", x.principal(0), 1200);
            due("accrued", x.accrued(0), 0);
            owes("at first", x, 0, 0, 0, 0);
            due("escrow", x.escrow(0), 0);
            due("deposit", x.deposit(0), 0);
            due("bills", x.bills(0), 0);
        });
        testCase("Interest was accrued up to a day, at first that of the opening", () -> {
            LoanDesk x = deskOn(100);
            x.open(36500, 1000, 36, 0, 0, true);
            due("on the day", x.accrued(0), 0);
            x.advance(1);
            due("a day later", x.accrued(0), 1);
        });
        testCase("A bill leaves the accrued interest 0 and accrued up to today", () -> {
            LoanDesk x = centADay(36, 0, true);
            x.advance(30);
            due("a day before", x.accrued(0), 30);
            x.advance(1);
            due("on the day", x.accrued(0), 0);
            due("interest due", x.owed(0, 1), 31);
            x.advance(1);
            due("a day later", x.accrued(0), 1);
        });
        testCase("Accruing twice on a day adds nothing", () -> {
            LoanDesk x = centADay(36, 1, true);
            x.advance(10);
            x.pay(0, 1);
            x.pay(0, 1);
            due("accrued", x.accrued(0), 10);
        });
    }

    private static void lateFees() {
        testCase("A fee comes 10 days behind a due day, not 9 and not 11", () -> {
            LoanDesk x = plain(1200, 12, 0, true);
            int[][] fees = {{31, 0}, {9, 0}, {1, 5}, {1, 5}, {17, 5}};
            for (int[] f : fees) {
                x.advance(f[0]);
                due("fees on " + x.date(), x.owed(0, 0), f[1]);
            }
        });
        testCase("A payment on the 9th day comes in time, one on the 10th does not", () -> {
            LoanDesk x = plain(1200, 12, 0, true);
            x.advance(40);
            x.pay(0, 100);
            x.advance(1);
            due("fees", x.owed(0, 0), 0);
            LoanDesk y = plain(1200, 12, 0, true);
            y.advance(41);
            y.pay(0, 100);
            parts("on the 10th day", y, 5, 0, 95, 0, 0, 0);
        });
        testCase("A fee only if a bill was made on the due day", () -> {
            LoanDesk x = plain(1200, 1, 1, true);
            x.charge(0, 120);
            x.advance(31);
            x.pay(0, 1200);
            x.advance(10);
            owes("behind the bill", x, 1, 0, 0, 10);
            due("bills in 60 days", x.advance(60), 0);
            owes("behind due days without a bill", x, 1, 0, 0, 10);
        });
        testCase("No fee 10 days behind the opening", () -> {
            LoanDesk x = plain(1200, 12, 1, true);
            x.advance(10);
            due("fees", x.owed(0, 0), 0);
        });
        testCase("A fee if interest, principal and escrow that are due come to more than 0 together", () -> {
            LoanDesk all = plain(1200, 12, 1, true);
            all.advance(31);
            all.pay(0, 100);
            all.advance(10);
            due("nothing due", all.owed(0, 0), 0);
            LoanDesk cent = plain(1200, 12, 1, true);
            cent.advance(31);
            cent.pay(0, 99);
            cent.advance(10);
            due("a cent of principal due", cent.owed(0, 0), 1);
        });
        testCase("A fee on interest alone", () -> {
            LoanDesk x = centADay(1, 0, true);
            x.advance(20);
            x.pay(0, 36500);
            x.advance(21);
            owes("late", x, 1, 20, 0, 0);
        });
        testCase("A fee on escrow alone", () -> {
            LoanDesk x = plain(1200, 12, 0, true);
            x.charge(0, 240);
            x.advance(31);
            x.pay(0, 100);
            x.advance(10);
            owes("late", x, 1, 0, 0, 20);
        });
        testCase("A fee on all three together", () -> {
            LoanDesk x = centADay(36, 0, true);
            x.charge(0, 1200);
            int part = x.level(0) - 31;
            x.advance(41);
            owes("late", x, (31 + part + 100) / 20, 31, part, 100);
        });
        testCase("No fee on fees", () -> {
            LoanDesk x = plain(1200, 12, 1, true);
            x.advance(41);
            owes("late", x, 5, 0, 100, 0);
            x.advance(29);
            owes("late again", x, 15, 0, 200, 0);
        });
        testCase("A twentieth, rounded as interest is", () -> {
            int[][] want = {{1, 0, 1, 0, 0}, {9, 0, 1, 0, 0}, {10, 0, 1, 1, 0}, {11, 0, 1, 1, 1}, {19, 0, 1, 1, 1},
                {20, 1, 1, 1, 1}, {21, 1, 2, 1, 1}, {29, 1, 2, 1, 1}, {30, 1, 2, 2, 2}, {31, 1, 2, 2, 2},
                {50, 2, 3, 3, 2}};
            for (int[] w : want) {
                for (int rounding = 0; rounding < 4; rounding++) {
                    LoanDesk x = plain(w[0], 1, rounding, true);
                    x.advance(41);
                    due("fee of " + w[0] + ", rounding " + rounding, x.owed(0, 0), w[1 + rounding]);
                }
            }
        });
        testCase("A fee on day 1500", () -> {
            LoanDesk x = deskOn(1459);
            x.open(1200, 0, 12, 0, 0, true);
            due("bills up to day 1499", x.advance(40), 1);
            due("fees on day 1499", x.owed(0, 0), 0);
            x.advance(1);
            due("fees on day 1500", x.owed(0, 0), 5);
        });
    }

    /** A desk whose loan has this escrow and a charge of 1200, a day before its 12th due day. */
    private static LoanDesk beforeTheCharge(int escrow) {
        LoanDesk x = plain(360000, 36, 0, true);
        x.charge(0, 12 * escrow);
        x.advance(31);
        x.pay(0, 10000 + escrow);
        x.charge(0, 1200);
        x.advance(334);
        return x;
    }

    private static void yearlyCharge() {
        testCase("If 12 divides k, the escrow falls by the charge", () -> {
            LoanDesk x = plain(3600, 36, 0, true);
            x.charge(0, 1200);
            int today = 0;
            for (int k = 1; k <= 49; k++) {
                x.advance(x.due(0, k) - today);
                today = x.due(0, k);
                due("escrow on due day " + k, x.escrow(0), k / 12 * -1200);
            }
        });
        testCase("The charge comes on the 12th due day, not the day before", () -> {
            LoanDesk x = plain(3600, 36, 0, true);
            x.charge(0, 1200);
            x.advance(365);
            due("escrow the day before", x.escrow(0), 0);
            due("deposit the day before", x.deposit(0), 100);
            x.advance(1);
            due("escrow on the day", x.escrow(0), -1200);
            due("deposit on the day", x.deposit(0), 200);
        });
        testCase("The deposit is a twelfth of the charge and of what the escrow is below 0", () -> {
            int[][] want = {{1199, -1, 101}, {1200, 0, 100}, {1201, 1, 100}, {1188, -12, 101}, {1187, -13, 102},
                {0, -1200, 200}, {5000, 3800, 100}};
            for (int[] w : want) {
                LoanDesk x = beforeTheCharge(w[0]);
                due("escrow before", x.escrow(0), w[0]);
                x.advance(1);
                due("escrow of " + w[0], x.escrow(0), w[1]);
                due("deposit for an escrow of " + w[0], x.deposit(0), w[2]);
            }
        });
        testCase("The deposit of charge and lack together is rounded up once", () -> {
            LoanDesk x = plain(3600, 36, 0, true);
            x.charge(0, 1);
            x.advance(366);
            due("escrow", x.escrow(0), -1);
            due("deposit", x.deposit(0), 1);
        });
        testCase("A charge of 0 leaves the lack to the deposit", () -> {
            LoanDesk x = plain(3600, 36, 0, true);
            x.charge(0, 1200);
            x.advance(366);
            x.charge(0, 0);
            due("deposit at once", x.deposit(0), 0);
            x.advance(365);
            due("escrow", x.escrow(0), -1200);
            due("deposit", x.deposit(0), 100);
        });
        testCase("The bill of the 12th due day has the new deposit", () -> {
            LoanDesk x = beforeTheCharge(0);
            x.advance(1);
            due("deposit of the 11th bill", x.bill(0, 10, 4), 100);
            due("deposit of the 12th bill", x.bill(0, 11, 4), 200);
        });
        testCase("A loan that is paid off is charged without a bill", () -> {
            LoanDesk x = plain(1200, 12, 0, true);
            x.charge(0, 1200);
            x.pay(0, 1200);
            due("bills made", x.advance(366), 0);
            due("escrow", x.escrow(0), -1200);
            due("deposit", x.deposit(0), 200);
            due("escrow due", x.owed(0, 3), 0);
        });
        testCase("The escrow below 0 is raised by what is paid to it", () -> {
            LoanDesk x = beforeTheCharge(0);
            x.advance(1);
            due("escrow", x.escrow(0), -1200);
            due("escrow due", x.owed(0, 3), 1200);
            x.pay(0, x.owed(0, 0) + x.owed(0, 2) + 1199);
            due("all but a cent", x.escrow(0), -1);
            x.pay(0, 1);
            due("the last cent", x.escrow(0), 0);
            due("what is behind it goes elsewhere", x.pay(0, 1), 0);
            due("escrow then", x.escrow(0), 0);
        });
    }

    private static void billing() {
        testCase("If neither principal nor accrued interest is above 0, that is all", () -> {
            LoanDesk x = plain(1200, 12, 0, true);
            x.charge(0, 1200);
            x.pay(0, 1200);
            due("bills made", x.advance(31), 0);
            due("bills", x.bills(0), 0);
            owes("nothing", x, 0, 0, 0, 0);
        });
        testCase("A bill for a principal of one cent without interest", () -> {
            LoanDesk x = plain(1200, 12, 0, true);
            x.pay(0, 1199);
            due("bills made", x.advance(31), 1);
            bill("one cent", x, 0, 31, 1, 0, 1, 0);
        });
        testCase("A bill for one cent of accrued interest without principal, and no deposit", () -> {
            LoanDesk x = centADay(12, 0, true);
            x.charge(0, 1200);
            x.advance(1);
            x.pay(0, 36500);
            due("bills made", x.advance(30), 1);
            bill("one cent", x, 0, 31, 0, 1, 0, 0);
            owes("one cent", x, 0, 1, 0, 0);
            due("bills behind it", x.advance(29), 0);
        });
        testCase("The deposit is added if the principal is above 0, be it by one cent that was due before", () -> {
            LoanDesk x = plain(1200, 1, 0, true);
            x.charge(0, 1200);
            x.advance(31);
            x.pay(0, 1199);
            x.advance(29);
            bill("one cent", x, 1, 60, 1, 0, 0, 100);
            owes("one cent", x, 5, 0, 1, 200);
        });
        testCase("So much more principal as the level is above the interest, if it is", () -> {
            // 30 cents accrued; in 36 months 1044 come to a level of 29, 1080 to 30, 1081 to 31.
            int[][] want = {{1044, 29, 0}, {1080, 30, 0}, {1081, 31, 1}};
            for (int[] w : want) {
                LoanDesk x = centADay(36, 0, false);
                x.advance(30);
                x.pay(0, 36500 - w[0]);
                due("level of " + w[0], x.level(0), w[1]);
                x.advance(1);
                bill("level " + w[1], x, 0, 31, w[0], 30, w[2], 0);
            }
        });
        testCase("But no more than all the principal that is not due", () -> {
            LoanDesk x = plain(11, 7, 0, true);
            int[] want = {2, 2, 2, 2, 2, 1, 0, 0};
            x.advance(244);
            due("bills", x.bills(0), 8);
            for (int k = 0; k < 8; k++) {
                due("part of bill " + k, x.bill(0, k, 3), want[k]);
            }
            due("principal due", x.owed(0, 2), 11);
        });
        testCase("And all of it if k is n", () -> {
            LoanDesk x = centADay(2, 0, true);
            x.advance(59);
            due("principal due the day before", x.owed(0, 2), 18242);
            x.advance(1);
            bill("the last", x, 1, 60, 36500, 29, 18258, 0);
            due("principal due on the day", x.owed(0, 2), 36500);
            LoanDesk one = centADay(1, 0, true);
            one.advance(31);
            bill("the only one", one, 0, 31, 36500, 31, 36500, 0);
            LoanDesk most = plain(3599, 36, 0, true);
            most.advance(1095);
            due("principal due the day before the 36th", most.owed(0, 2), 3500);
            most.advance(1);
            due("part of the 36th", most.bill(0, 35, 3), 99);
        });
        testCase("Behind the n-th due day bills go on, with interest and deposit", () -> {
            LoanDesk x = centADay(1, 0, true);
            x.charge(0, 1200);
            x.advance(60);
            bill("the second of a loan of one month", x, 1, 60, 36500, 29, 0, 100);
            due("bills up to day 1500", 2 + x.advance(1440), 49);
            bill("the 49th", x, 48, 1492, 36500, 31, 0, 500);
        });
        testCase("How many bills were made, by all loans together", () -> {
            LoanDesk x = new LoanDesk();
            for (int i = 0; i < 3; i++) {
                x.open(1200, 0, 12, 0, 0, true);
            }
            due("the day before", x.advance(30), 0);
            due("the day", x.advance(1), 3);
            due("up to day 1500", x.advance(1469), 144);
            due("bills of the last", x.bills(2), 49);
        });
    }

    // ---- Terms: payments

    /** Fees, interest, a part of the principal and escrow are due. */
    private static LoanDesk withAllDue() {
        LoanDesk x = centADay(36, 0, true);
        x.charge(0, 240);
        x.advance(41);
        return x;
    }

    private static void waterfall() {
        testCase("A payment goes to fees, interest, principal and escrow due, then to the principal, then back", () -> {
            // The level is 1030: 999 of it were principal.
            owes("all", withAllDue(), 52, 31, 999, 20);
            int[] due = {52, 31, 999, 20, 35501};
            int sum = 0;
            for (int step = 0; step <= 5; step++) {
                for (int more = -1; more <= 1; more++) {
                    if (sum + more >= 1) {
                        payOf(sum + more, due);
                    }
                }
                sum += step < 5 ? due[step] : 0;
            }
        });
        testCase("A rest is given back, and nothing else changes by it", () -> {
            LoanDesk x = plain(1200, 12, 0, true);
            due("one cent too much", x.pay(0, 1201), 1);
            parts("one cent too much", x, 0, 0, 0, 0, 1200, 1);
            due("all too much", x.pay(0, 200000000), 200000000);
            parts("all too much", x, 0, 0, 0, 0, 0, 200000000);
            due("principal", x.principal(0), 0);
            due("escrow", x.escrow(0), 0);
            owes("nothing", x, 0, 0, 0, 0);
        });
        testCase("A payment of exactly all leaves no rest", () -> {
            LoanDesk x = plain(100000000, 1, 0, true);
            x.charge(0, 10000000);
            x.advance(31);
            due("rest", x.pay(0, 100833334), 0);
            parts("all", x, 0, 0, 100000000, 833334, 0, 0);
            due("principal", x.principal(0), 0);
            due("escrow", x.escrow(0), 833334);
        });
        testCase("Accrued interest that no bill named is not paid", () -> {
            LoanDesk x = centADay(36, 0, true);
            x.advance(7);
            due("rest", x.pay(0, 36600), 100);
            due("accrued", x.accrued(0), 7);
            x.advance(7);
            due("accrued later", x.accrued(0), 7);
        });
        testCase("When principal is paid, the loan accrues before", () -> {
            // Half a cent a day, rounded up: accruing in the midst costs half a cent.
            LoanDesk x = new LoanDesk();
            x.open(18250, 1000, 36, 0, 1, true);
            x.advance(32);
            x.pay(0, 16);
            parts("interest alone", x, 0, 16, 0, 0, 0, 0);
            x.advance(1);
            due("interest alone does not accrue", x.accrued(0), 1);
            x.pay(0, 1);
            parts("a cent of principal", x, 0, 0, 1, 0, 0, 0);
            x.advance(1);
            due("a cent of principal does", x.accrued(0), 2);
            LoanDesk y = new LoanDesk();
            y.open(18250, 1000, 36, 0, 1, true);
            y.advance(32);
            y.pay(0, 17);
            y.advance(1);
            due("with a cent of principal it accrues", y.accrued(0), 2);
        });
        testCase("When principal is prepaid, the loan accrues before", () -> {
            LoanDesk x = centADay(36, 0, true);
            x.advance(10);
            x.pay(0, 36500);
            due("accrued on what there was", x.accrued(0), 10);
            LoanDesk y = new LoanDesk();
            y.open(18250, 1000, 36, 0, 1, true);
            y.advance(1);
            y.pay(0, 1);
            y.advance(1);
            due("half a cent twice, each rounded up", y.accrued(0), 2);
        });
        testCase("A payment to fees or escrow alone does not accrue", () -> {
            LoanDesk x = new LoanDesk();
            x.open(18250, 1000, 36, 0, 1, true);
            x.charge(0, 1200);
            x.advance(31);
            x.pay(0, x.owed(0, 1) + x.owed(0, 2));
            x.advance(1);
            x.pay(0, 50);
            parts("escrow alone", x, 0, 0, 0, 50, 0, 0);
            x.advance(1);
            due("accrued", x.accrued(0), 1);
            x.advance(8);
            due("fee", x.owed(0, 0), 3);
            x.advance(1);
            x.pay(0, 3);
            parts("fees alone", x, 3, 0, 0, 0, 0, 0);
            x.advance(1);
            due("accrued later", x.accrued(0), 6);
        });
    }

    private static void payOf(int cents, int[] due) {
        LoanDesk x = withAllDue();
        int escrowBefore = x.escrow(0);
        int principalBefore = x.principal(0);
        int left = cents;
        int[] want = new int[6];
        for (int what = 0; what < 5; what++) {
            want[what] = Math.min(left, due[what]);
            left -= want[what];
        }
        want[5] = left;
        due("rest of " + cents, x.pay(0, cents), left);
        parts("of " + cents, x, want);
        owes("after " + cents, x, due[0] - want[0], due[1] - want[1], due[2] - want[2], due[3] - want[3]);
        due("escrow after " + cents, x.escrow(0), escrowBefore + want[3]);
        due("principal after " + cents, x.principal(0), principalBefore - want[2] - want[4]);
    }

    private static void prepayments() {
        testCase("After a prepayment on a steady loan the level stays", () -> {
            LoanDesk x = plain(1200, 12, 0, true);
            x.pay(0, 600);
            due("level", x.level(0), 100);
            x.advance(31);
            due("part of the bill", x.bill(0, 0, 3), 100);
            x.pay(0, 1200);
            due("level of a loan paid off", x.level(0), 100);
        });
        testCase("After a prepayment on a loan that is not steady the level is reckoned anew", () -> {
            LoanDesk x = plain(1200, 12, 0, false);
            x.pay(0, 600);
            due("level", x.level(0), 50);
            x.advance(31);
            due("part of the bill", x.bill(0, 0, 3), 50);
        });
        testCase("A payment of what is due, and no cent more, is no prepayment", () -> {
            LoanDesk x = plain(100, 3, 0, false);
            x.advance(31);
            x.pay(0, 34);
            due("level", x.level(0), 34);
            x.pay(0, 1);
            due("level after a cent more", x.level(0), 33);
        });
        testCase("A rest is no prepayment", () -> {
            LoanDesk x = plain(1, 36, 0, false);
            x.advance(31);
            due("rest", x.pay(0, 5), 4);
            parts("a rest", x, 0, 0, 1, 0, 0, 4);
            due("level", x.level(0), 1);
        });
        testCase("The level is reckoned for the principal after the prepayment and by the loan's own interest", () -> {
            LoanDesk x = new LoanDesk();
            x.open(1200000, 6000, 12, 2, 2, false);
            due("level", x.level(0), 103280);
            x.advance(31);
            x.pay(0, 103280);
            due("level after a payment", x.level(0), 103280);
            x.pay(0, 102720);
            due("1000000 in 11 months", x.level(0), 93659);
        });
    }

    // ---- Terms: exceptions

    private static void precedence() {
        testCase("open: the argument is looked at before the number of loans", () -> {
            LoanDesk x = rich();
            refused("a wrong fourth loan", ARGUMENT, () -> x.open(0, 0, 1, 0, 0, true));
            refused("a right fourth loan", STATE, () -> x.open(1, 0, 1, 0, 0, true));
        });
        testCase("charge: the loan before the charge", () ->
            refused("charge", INDEX, () -> { rich().charge(3, -1); return 0; }));
        testCase("advance: the argument before the day", () ->
            refused("advance", ARGUMENT, () -> deskOn(1500).advance(-1)));
        testCase("pay: the loan before the cents", () -> refused("pay", INDEX, () -> rich().pay(3, 0)));
        testCase("part: the loan, then what, then whether a payment was made", () -> {
            refused("all three", INDEX, () -> new LoanDesk().part(0, 6));
            refused("loan and what", INDEX, () -> rich().part(3, 6));
            refused("what and no payment", ARGUMENT, () -> plain(1, 1, 0, true).part(0, 6));
            refused("no payment", STATE, () -> plain(1, 1, 0, true).part(0, 5));
        });
        testCase("due: the loan before k", () -> refused("due", INDEX, () -> rich().due(3, 0)));
        testCase("owed: the loan before what", () -> refused("owed", INDEX, () -> rich().owed(3, 4)));
        testCase("bill: the loan, then what, then whether there is such a bill", () -> {
            refused("all three", INDEX, () -> rich().bill(3, -1, 5));
            refused("what and no bill", ARGUMENT, () -> rich().bill(0, -1, 5));
            refused("what and no bill yet", ARGUMENT, () -> plain(1, 1, 0, true).bill(0, 0, -1));
            refused("no bill yet", NONE, () -> plain(1, 1, 0, true).bill(0, 0, 0));
        });
    }

    /** Three loans in the midst of their lives: bills, fees, payments, a charge, a prepayment. */
    private static LoanDesk rich() {
        LoanDesk x = new LoanDesk();
        x.open(1200000, 6000, 12, 2, 2, false);
        x.advance(20);
        x.open(36500, 1000, 1, 3, 1, true);
        x.charge(0, 1200);
        x.charge(1, 777);
        x.advance(45);
        x.pay(0, 200000);
        x.pay(1, 5000);
        x.open(99, 30000, 36, 1, 3, false);
        x.advance(3);
        return x;
    }

    private static void look(LoanDesk x, List<String> seen) {
        seen.add("date " + x.date());
        for (int loan = 0; loan < 3; loan++) {
            int l = loan;
            seen.add("principal " + answer(() -> x.principal(l)));
            seen.add("level " + answer(() -> x.level(l)));
            seen.add("accrued " + answer(() -> x.accrued(l)));
            seen.add("escrow " + answer(() -> x.escrow(l)));
            seen.add("deposit " + answer(() -> x.deposit(l)));
            seen.add("bills " + answer(() -> x.bills(l)));
            for (int what = 0; what < 6; what++) {
                int w = what;
                seen.add("owed " + answer(() -> x.owed(l, w)));
                seen.add("part " + answer(() -> x.part(l, w)));
                seen.add("bill " + answer(() -> x.bill(l, 1, w)));
            }
        }
    }

    /** What can be seen now and later on, so that a change inside shows as well. */
    private static List<String> story(LoanDesk x) {
        List<String> seen = new ArrayList<>();
        look(x, seen);
        seen.add("open " + answer(() -> x.open(500, 700, 9, 0, 2, false)));
        seen.add("advance " + x.advance(17));
        seen.add("pay " + answer(() -> x.pay(0, 150000)));
        look(x, seen);
        seen.add("advance " + x.advance(400));
        look(x, seen);
        return seen;
    }

    private static void changesNothing(String what, String want, Use call) {
        List<LoanDesk> twins = Arrays.asList(rich(), rich(), deskOn(5), deskOn(5));
        refused(what, want, () -> call.on(twins.get(0)));
        answer(() -> call.on(twins.get(2)));
        if (!story(twins.get(0)).equals(story(twins.get(1)))) {
            report(what + " changed something");
        }
        if (want.equals(answer(() -> call.on(deskOn(5)))) && !story(twins.get(2)).equals(story(twins.get(3)))) {
            report(what + " changed something where there are no loans");
        }
    }

    private static void refusalsChangeNothing() {
        testCase("open that throws changes nothing", () -> {
            changesNothing("a fourth loan", STATE, x -> x.open(1, 0, 1, 0, 0, true));
            changesNothing("principal 0", ARGUMENT, x -> x.open(0, 0, 1, 0, 0, true));
            changesNothing("rounding 4", ARGUMENT, x -> x.open(1, 0, 1, 0, 4, true));
        });
        testCase("charge that throws changes nothing", () -> {
            changesNothing("loan 3", INDEX, x -> { x.charge(3, 5); return 0; });
            changesNothing("charge -1", ARGUMENT, x -> { x.charge(0, -1); return 0; });
            changesNothing("charge 10000001", ARGUMENT, x -> { x.charge(0, 10000001); return 0; });
        });
        testCase("advance that throws changes nothing", () -> {
            changesNothing("-1 days", ARGUMENT, x -> x.advance(-1));
            changesNothing("1500 days", STATE, x -> x.advance(1500));
            changesNothing("all days there are", STATE, x -> x.advance(HIGH));
        });
        testCase("pay that throws changes nothing", () -> {
            changesNothing("loan 3", INDEX, x -> x.pay(3, 5));
            changesNothing("0 cents", ARGUMENT, x -> x.pay(0, 0));
            changesNothing("200000001 cents", ARGUMENT, x -> x.pay(0, 200000001));
        });
        testCase("a question that throws changes nothing", () -> {
            changesNothing("part 6", ARGUMENT, x -> x.part(0, 6));
            changesNothing("part before a payment", STATE, x -> x.part(2, 0));
            changesNothing("due 101", ARGUMENT, x -> x.due(0, 101));
            changesNothing("owed 4", ARGUMENT, x -> x.owed(0, 4));
            changesNothing("bill of 5", ARGUMENT, x -> x.bill(0, 0, 5));
            changesNothing("bill 9", NONE, x -> x.bill(0, 9, 0));
            changesNothing("interest backwards", ARGUMENT, x -> x.interest(1, 1, 2, 1, 0, 0));
        });
        testCase("a question that answers changes nothing", () -> {
            LoanDesk asked = rich();
            LoanDesk twin = rich();
            look(asked, new ArrayList<>());
            asked.due(0, 100);
            asked.interest(100, 100, 0, 100, 0, 0);
            if (!story(asked).equals(story(twin))) {
                report("asking changed something");
            }
        });
    }

    private static Use[] ofLoans(int... numbers) {
        List<Use> calls = new ArrayList<>();
        for (int n : numbers) {
            calls.add(x -> { x.charge(n, 1); return 0; });
            calls.add(x -> x.pay(n, 1));
            calls.add(x -> x.part(n, 0));
            calls.add(x -> x.due(n, 1));
            calls.add(x -> x.principal(n));
            calls.add(x -> x.level(n));
            calls.add(x -> x.accrued(n));
            calls.add(x -> x.owed(n, 0));
            calls.add(x -> x.escrow(n));
            calls.add(x -> x.deposit(n));
            calls.add(x -> x.bills(n));
            calls.add(x -> x.bill(n, 0, 0));
        }
        return calls.toArray(new Use[0]);
    }

    private static void loansThatThereAreNot() {
        testCase("An IndexOutOfBoundsException for a loan where there are none", () -> {
            for (Use call : ofLoans(-1, 0, 1, 2, 3, LOW, HIGH)) {
                refused("a call of a new object", INDEX, () -> call.on(new LoanDesk()));
            }
        });
        String[] names = {"charge", "pay", "part", "due", "principal", "level", "accrued", "owed", "escrow", "deposit",
            "bills", "bill"};
        for (int opened = 1; opened <= 3; opened++) {
            int count = opened;
            testCase("An IndexOutOfBoundsException for a loan that there is not among " + count, () -> {
                LoanDesk x = new LoanDesk();
                for (int i = 0; i < count; i++) {
                    x.open(1200, 0, 12, 0, 0, true);
                }
                x.advance(31);
                for (int i = 0; i < count; i++) {
                    x.pay(i, 1);
                }
                for (int n : new int[] {-1, count, 3, 4, LOW, HIGH}) {
                    Use[] calls = ofLoans(n);
                    for (int i = 0; i < calls.length; i++) {
                        Use call = calls[i];
                        refused(names[i] + " of loan " + n, INDEX, () -> call.on(x));
                    }
                }
                for (int n : new int[] {0, count - 1}) {
                    Use[] calls = ofLoans(n);
                    for (int i = 0; i < calls.length; i++) {
                        Use call = calls[i];
                        String got = answer(() -> call.on(x));
                        if (got.endsWith("Exception")) {
                            report(names[i] + " of loan " + n + " gave " + got);
                        }
                    }
                }
            });
        }
    }

    // ---- Promises: ranges

    private static void range(String words, int least, int most, String want, IntFunction<Use> of) {
        testCase(words, () -> {
            for (int value : new int[] {least, least + 1, most - 1, most}) {
                String got = answer(() -> of.apply(value).on(rangeDesk()));
                if (got.endsWith("Exception")) {
                    report(value + " gave " + got);
                }
            }
            for (int value : new int[] {least - 1, most + 1, LOW, HIGH, -HIGH}) {
                refused("" + value, want, () -> of.apply(value).on(rangeDesk()));
            }
        });
    }

    /** One loan with two bills and a payment, on day 60. */
    private static LoanDesk rangeDesk() {
        LoanDesk x = plain(1200, 12, 0, false);
        x.advance(60);
        x.pay(0, 5);
        return x;
    }

    private static void openRanges() {
        range("open: principal is 1 .. 100000000", 1, 100000000, ARGUMENT, v -> x -> x.open(v, 5, 5, 0, 0, true));
        range("open: rate is 0 .. 30000", 0, 30000, ARGUMENT, v -> x -> x.open(5, v, 5, 0, 0, true));
        range("open: months is 1 .. 36", 1, 36, ARGUMENT, v -> x -> x.open(5, 5, v, 0, 0, true));
        range("open: rule is 0 .. 3", 0, 3, ARGUMENT, v -> x -> x.open(5, 5, 5, v, 0, true));
        range("open: rounding is 0 .. 3", 0, 3, ARGUMENT, v -> x -> x.open(5, 5, 5, 0, v, true));
        testCase("open: the least and the greatest of all at once", () -> {
            LoanDesk x = new LoanDesk();
            x.open(1, 0, 1, 0, 0, true);
            due("level of the least", x.level(0), 1);
            x.open(100000000, 30000, 36, 3, 3, false);
            due("principal of the greatest", x.principal(1), 100000000);
            x.open(100000000, 30000, 36, 1, 3, false);
            due("level of the greatest", x.level(2), 4268508);
        });
    }

    private static void otherRanges() {
        range("charge: charge is 0 .. 10000000", 0, 10000000, ARGUMENT, v -> x -> { x.charge(0, v); return 0; });
        testCase("charge: a twelfth of it, rounded up", () -> {
            LoanDesk x = plain(1200, 12, 0, true);
            int[][] want = {{0, 0}, {1, 1}, {11, 1}, {12, 1}, {13, 2}, {24, 2}, {25, 3}, {9999999, 833334},
                {10000000, 833334}, {0, 0}};
            for (int[] w : want) {
                x.charge(0, w[0]);
                due("deposit of " + w[0], x.deposit(0), w[1]);
            }
        });
        testCase("charge: the deposit is that of the charge, whatever the escrow is", () -> {
            LoanDesk x = plain(3600, 36, 0, true);
            x.charge(0, 1200);
            x.advance(366);
            x.charge(0, 24);
            due("deposit with an escrow below 0", x.deposit(0), 2);
            due("escrow", x.escrow(0), -1200);
        });
        testCase("advance: days below 0", () -> {
            refused("-1", ARGUMENT, () -> rangeDesk().advance(-1));
            refused("the least", ARGUMENT, () -> rangeDesk().advance(LOW));
            LoanDesk x = rangeDesk();
            due("0", x.advance(0), 0);
            due("date", x.date(), 20000301);
            due("bills", x.bills(0), 2);
        });
        testCase("advance: behind day 1500", () -> {
            due("to day 1500", rangeDesk().advance(1440), 47);
            refused("to day 1501", STATE, () -> rangeDesk().advance(1441));
            refused("a sum that wraps around", STATE, () -> rangeDesk().advance(HIGH));
            refused("a sum that wraps around to nothing", STATE, () -> rangeDesk().advance(HIGH - 59));
            due("0 on day 1500", deskOn(1500).advance(0), 0);
        });
        range("pay: cents is 1 .. 200000000", 1, 200000000, ARGUMENT, v -> x -> x.pay(0, v));
        range("part: what is 0 .. 5", 0, 5, ARGUMENT, v -> x -> x.part(0, v));
        range("due: k is 1 .. 100", 1, 100, ARGUMENT, v -> x -> x.due(0, v));
        range("owed: what is 0 .. 3", 0, 3, ARGUMENT, v -> x -> x.owed(0, v));
        range("bill: what is 0 .. 4", 0, 4, ARGUMENT, v -> x -> x.bill(0, 0, v));
        range("bill: k is a bill that there is", 0, 1, NONE, v -> x -> x.bill(0, v, 0));
        testCase("bill: none, the first, and a full book", () -> {
            LoanDesk x = plain(1200, 12, 0, true);
            refused("bill 0 before it is made", NONE, () -> x.bill(0, 0, 0));
            x.advance(31);
            due("bill 0", x.bill(0, 0, 0), 31);
            refused("bill 1 before it is made", NONE, () -> x.bill(0, 1, 0));
            x.advance(1469);
            due("bills", x.bills(0), 49);
            due("bill 48", x.bill(0, 48, 0), 1492);
            due("bill 0 still", x.bill(0, 0, 0), 31);
            refused("bill 49", NONE, () -> x.bill(0, 49, 0));
            refused("a place that wraps around", NONE, () -> x.bill(0, 858993460, 0));
        });
        testCase("bill: it stays as it was made", () -> {
            LoanDesk x = plain(1200, 12, 0, true);
            x.charge(0, 1200);
            x.advance(31);
            x.pay(0, 1000);
            x.charge(0, 0);
            x.advance(60);
            bill("the first", x, 0, 31, 1200, 0, 100, 100);
        });
    }

    private static void payments() {
        testCase("part: none was made", () -> {
            LoanDesk x = plain(1200, 12, 0, true);
            x.open(1200, 0, 12, 0, 0, true);
            x.pay(0, 1);
            due("of the loan that was paid", x.part(0, 4), 1);
            for (int what = 0; what < 6; what++) {
                int w = what;
                refused("of the other loan", STATE, () -> x.part(1, w));
            }
        });
        testCase("part: a refused payment is none", () -> {
            LoanDesk x = plain(1200, 12, 0, true);
            refused("0 cents", ARGUMENT, () -> x.pay(0, 0));
            refused("part", STATE, () -> x.part(0, 0));
            x.pay(0, 7);
            refused("0 cents", ARGUMENT, () -> x.pay(0, 0));
            parts("the one before", x, 0, 0, 0, 0, 7, 0);
        });
        testCase("part: of the latest payment", () -> {
            LoanDesk x = plain(1200, 12, 0, true);
            x.pay(0, 7);
            x.pay(0, 5);
            parts("the latest", x, 0, 0, 0, 0, 5, 0);
            x.advance(31);
            parts("after a bill", x, 0, 0, 0, 0, 5, 0);
            x.pay(0, 3);
            parts("the third", x, 0, 0, 3, 0, 0, 0);
        });
        testCase("accrued: with that which would be added, which asking does not add", () -> {
            LoanDesk x = new LoanDesk();
            x.open(18250, 1000, 36, 0, 1, true);
            for (int day = 1; day <= 30; day++) {
                x.advance(1);
                due("accrued on day " + day, x.accrued(0), (day + 1) / 2);
            }
        });
        testCase("accrued: of a loan paid off, only what was accrued", () -> {
            LoanDesk x = centADay(36, 1, true);
            x.advance(10);
            x.pay(0, 36500);
            x.advance(20);
            due("accrued", x.accrued(0), 10);
            x.advance(1);
            due("accrued behind the bill", x.accrued(0), 0);
        });
    }

    private static void interestRanges() {
        range("interest: amount is 0 .. 100000000", 0, 100000000, ARGUMENT, v -> x -> x.interest(v, 5, 1, 9, 0, 0));
        range("interest: rate is 0 .. 30000", 0, 30000, ARGUMENT, v -> x -> x.interest(5, v, 1, 9, 0, 0));
        range("interest: from is 0 .. 4000", 0, 4000, ARGUMENT, v -> x -> x.interest(5, 5, v, 4000, 0, 0));
        range("interest: to is 0 .. 4000", 0, 4000, ARGUMENT, v -> x -> x.interest(5, 5, 0, v, 0, 0));
        range("interest: rule is 0 .. 3", 0, 3, ARGUMENT, v -> x -> x.interest(5, 5, 1, 9, v, 0));
        range("interest: rounding is 0 .. 3", 0, 3, ARGUMENT, v -> x -> x.interest(5, 5, 1, 9, 0, v));
        testCase("interest: from alone is above 4000", () ->
            refused("4001 to 4001", ARGUMENT, () -> new LoanDesk().interest(5, 5, 4001, 4001, 0, 0)));
        testCase("interest: both are below 0", () ->
            refused("-2 to -1", ARGUMENT, () -> new LoanDesk().interest(5, 5, -2, -1, 0, 0)));
        testCase("interest: to below from", () -> {
            for (int rule = 0; rule < 4; rule++) {
                int r = rule;
                LoanDesk x = new LoanDesk();
                refused("one day back", ARGUMENT, () -> x.interest(100, 1000, 60, 59, r, 0));
                refused("all days back", ARGUMENT, () -> x.interest(100, 1000, 4000, 0, r, 0));
                due("no day", x.interest(100000000, 30000, 60, 60, r, 1), 0);
                due("no day, the first", x.interest(100000000, 30000, 0, 0, r, 1), 0);
                due("no day, the last", x.interest(100000000, 30000, 4000, 4000, r, 1), 0);
            }
        });
        testCase("interest: an amount or a rate of 0", () -> {
            for (int rounding = 0; rounding < 4; rounding++) {
                due("amount 0", new LoanDesk().interest(0, 30000, 0, 4000, 3, rounding), 0);
                due("rate 0", new LoanDesk().interest(100000000, 0, 0, 4000, 3, rounding), 0);
            }
        });
        testCase("interest: the greatest of all at once", () -> {
            int[][] want = {{328767123, 328767124, 328767123, 328767123}, {333333333, 333333334, 333333333, 333333333},
                {328583333, 328583334, 328583333, 328583333}, {328520547, 328520548, 328520548, 328520548}};
            for (int rule = 0; rule < 4; rule++) {
                for (int rounding = 0; rounding < 4; rounding++) {
                    due("rule " + rule + ", rounding " + rounding,
                        new LoanDesk().interest(100000000, 30000, 0, 4000, rule, rounding), want[rule][rounding]);
                }
            }
        });
        testCase("interest: days behind 1500, on any day and without a loan", () -> {
            due("on day 0", new LoanDesk().interest(36500, 1000, 3999, 4000, 0, 0), 1);
            due("on day 1500", deskOn(1500).interest(36500, 1000, 3999, 4000, 0, 0), 1);
        });
    }

    private static void atFirst() {
        testCase("A new object: no loans, and nothing of another object", () -> {
            LoanDesk other = rich();
            LoanDesk x = new LoanDesk();
            due("date", x.date(), 20000101);
            refused("loan 0", INDEX, () -> x.bills(0));
            due("the first number", x.open(7, 0, 1, 0, 0, true), 0);
            due("loan 0 of the other", other.bills(0), 2);
        });
    }

    public static void main(String[] args) {
        atFirst();
        calendar();
        loans();
        dueDays();
        spanRules();
        roundings();
        levels();
        accruing();
        lateFees();
        yearlyCharge();
        billing();
        waterfall();
        prepayments();
        precedence();
        refusalsChangeNothing();
        loansThatThereAreNot();
        openRanges();
        otherRanges();
        payments();
        interestRanges();
        System.out.println(wrong == 0 ? "all answers are as due in " + cases + " cases" : wrong + " answers were wrong");
        if (wrong != 0) {
            System.exit(1);
        }
    }
}
