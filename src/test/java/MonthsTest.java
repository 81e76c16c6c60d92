/** Promises 18 to 24: days, generation, bills and the ends of months. */
public final class MonthsTest {
    private MonthsTest() {
    }

    public static void main(String[] args) {
        passDays();
        generate();
        bill();
        endMonthErrors();
        sixtyMonths();
        greatestRemainders();
        remaindersOfTheOperator();
        partsOfThoseWhoLeft();
        assignmentsPassOn();
        billsArePaidOldestFirst();
        lotsExpire();
        debtIsReducedFirst();
        shareDays();
        generation();
        Check.finish();
    }

    private static void passDays() {
        SolarLedger x = new SolarLedger();
        Check.fails("0 days", Check.ARGUMENT, () -> x.passDays(0));
        Check.fails("31 days", Check.ARGUMENT, () -> x.passDays(31));
        Check.due("1 day", 1, x.passDays(1));
        Check.fails("30 more days", Check.STATE, () -> x.passDays(30));
        Check.due("29 more days", 30, x.passDays(29));
        Check.fails("a 31st day", Check.STATE, () -> x.passDays(1));
        Check.fails("days out of range", Check.ARGUMENT, () -> x.passDays(31));
        x.endMonth();
        Check.due("a new month", 30, x.passDays(30));
    }

    private static void generate() {
        SolarLedger x = Check.garden("garden 10 3 50 60;period 10;period 20;hours 3 5 1;");
        Check.due("first", 7, x.generate(2, 7));
        Check.due("other period", 9, x.generate(3, 9));
        Check.due("same period", 8, x.generate(23, 1));
        Check.due("sum of the other", 20, x.generate(4, 11));
        Check.fails("hour 24", Check.INDEX, () -> x.generate(24, 0));
        Check.fails("hour -1", Check.INDEX, () -> x.generate(-1, 5));
        Check.fails("0 Wh", Check.ARGUMENT, () -> x.generate(0, 0));
        Check.fails("too many Wh", Check.ARGUMENT, () -> x.generate(0, 1_000_000_001));
        Check.fails("the sum", Check.STATE, () -> x.generate(0, 999_999_993));
        Check.due("the greatest sum", 1_000_000_000, x.generate(0, 999_999_992));
        Check.fails("one more", Check.STATE, () -> x.generate(5, 1));
        x.passDays(30);
        Check.due("divided", 10_000_000_400L, x.endMonth());
        Check.due("a new month", 1_000_000_000, x.generate(0, 1_000_000_000));
    }

    private static void bill() {
        SolarLedger x = Check.garden("garden 10 3 50 60;period 10;");
        x.join(5, 5, 0);
        x.join(6, 6, 0);
        Check.fails("nobody", Check.INDEX, () -> x.bill(2, 0));
        Check.fails("0", Check.ARGUMENT, () -> x.bill(1, 0));
        Check.fails("too much", Check.ARGUMENT, () -> x.bill(0, 1_000_000_001));
        Check.fails("of one who waits", Check.STATE, () -> x.bill(1, 1));
        for (long sum = 1; sum <= 10; sum++) {
            Check.due("bill", sum * 1_000_000_000, x.bill(0, 1_000_000_000));
        }
        Check.fails("over the greatest bill", Check.STATE, () -> x.bill(0, 1));
        Check.due("account", 10_000_000_000L, x.account(0, 1));
        Check.endMonth(x, 0);
        Check.due("due in cash", 10_000_000_000L, x.account(0, 2));
        Check.due("the next bill", 1, x.bill(0, 1));
    }

    private static void endMonthErrors() {
        SolarLedger x = new SolarLedger();
        Check.fails("day 0", Check.STATE, () -> x.endMonth());
        x.passDays(29);
        Check.fails("day 29", Check.STATE, () -> x.endMonth());
        x.passDays(1);
        Check.due("nothing generated", 0, x.endMonth());
        Check.due("month", 1, x.month());
        Check.fails("day 0 again", Check.STATE, () -> x.endMonth());
    }

    private static void sixtyMonths() {
        SolarLedger x = new SolarLedger();
        x.join(1000, 1, 0);
        for (int month = 0; month < 59; month++) {
            Check.due("month", month, x.month());
            Check.endMonth(x, month + 1);
        }
        x.generate(0, 60);
        x.passDays(30);
        Check.fails("month 59", Check.STATE, () -> x.endMonth());
        Check.due("month", 59, x.month());
        Check.due("old generation", 1, x.generation(0, 0));
        Check.due("present generation", 60, x.generation(59, 0));
        Check.due("share-days", 30000, x.shareDays(59, 0));
        // Lots of months 47 to 58 are left, as those of 46 expired at the end of 58.
        Check.due("balance", (48 + 59) * 12 / 2 * 10, x.balance(0));
        Check.due("expired", 47 * 48 / 2 * 10, x.account(0, 5));
        Check.due("fund", 47 * 48 / 2 * 10, x.fund());
        Check.due("a forecast beyond the last month", 60 * 12 * 10, x.forecastBalance(0, 12));
    }

    private static void greatestRemainders() {
        SolarLedger x = Check.garden("garden 7 3 50 100;period 1;");
        x.join(2, 2, 0);
        x.join(2, 2, 0);
        x.join(3, 3, 0);
        // 10 * 2/7 = 2 6/7 twice, 10 * 3/7 = 4 2/7: two millicents are left.
        Check.endMonth(x, 10);
        Check.due("0", 3, x.balance(0));
        Check.due("1", 3, x.balance(1));
        Check.due("2", 4, x.balance(2));
        // 1 * 2/7 twice and 3/7: the greatest remainder gets it.
        Check.endMonth(x, 1);
        Check.due("2 again", 5, x.balance(2));
        // 4 * 2/7 = 1 1/7 twice, 4 * 3/7 = 1 5/7.
        Check.endMonth(x, 4);
        Check.due("0 at last", 4, x.balance(0));
        Check.due("1 at last", 4, x.balance(1));
        Check.due("2 at last", 7, x.balance(2));
    }

    private static void remaindersOfTheOperator() {
        SolarLedger x = Check.garden("garden 3 3 50 100;period 1;");
        x.join(1, 1, 0);
        x.join(1, 1, 0);
        Check.endMonth(x, 1);
        Check.due("equal remainders: the first number", 1, x.balance(0));
        Check.endMonth(x, 2);
        Check.due("the operator is behind all", 1, x.balance(1));
        Check.due("the operator gets nothing", 0, x.operatorAccount());
        Check.endMonth(x, 4);
        Check.due("its whole part", 1, x.operatorAccount());
    }

    private static void partsOfThoseWhoLeft() {
        SolarLedger x = Check.garden("garden 4 3 50 100;period 1;");
        x.join(1, 1, 0);
        x.join(1, 1, 0);
        x.passDays(15);
        x.leave(0);
        x.generate(0, 800);
        x.passDays(15);
        Check.due("divided", 800, x.endMonth());
        Check.due("the fund", 100, x.fund());
        Check.due("who stayed", 200, x.balance(1));
        Check.due("who left", 0, x.balance(0));
        Check.due("the operator", 500, x.operatorAccount());
    }

    private static void assignmentsPassOn() {
        SolarLedger x = Check.garden("garden 4 3 50 100;period 1;");
        for (int i = 0; i < 4; i++) {
            x.join(1, 1, 0);
        }
        x.assign(3, 1, 50);
        x.assign(1, 0, 33);
        x.assign(0, 2, 100);
        x.bill(1, 40);
        Check.endMonth(x, 404);
        // 3 keeps 51 of 101; 1 receives 151, passes on 49; 0 passes on all of 150.
        Check.due("3", 51, x.balance(3));
        Check.due("1", 151 - 49 - 40, x.balance(1));
        Check.due("0", 0, x.balance(0));
        Check.due("2", 101 + 150, x.balance(2));
        Check.due("no lot of 0", 0, x.lot(0, 0));
    }

    private static void billsArePaidOldestFirst() {
        SolarLedger x = Check.garden("garden 1 3 50 100;period 1;");
        x.join(1, 1, 0);
        Check.endMonth(x, 100);
        Check.endMonth(x, 50);
        x.bill(0, 120);
        Check.endMonth(x, 30);
        Check.due("oldest", 0, x.lot(0, 0));
        Check.due("next", 30, x.lot(0, 1));
        Check.due("newest", 30, x.lot(0, 2));
        Check.due("paid by lots", 120, x.account(0, 4));
        x.bill(0, 100);
        Check.endMonth(x, 5);
        Check.due("all used", 0, x.balance(0));
        Check.due("paid by lots so far", 185, x.account(0, 4));
        Check.due("due in cash", 35, x.account(0, 2));
        x.bill(0, 7);
        Check.due("the new bill", 7, x.account(0, 1));
        Check.endMonth(x, 0);
        Check.due("due in cash so far", 42, x.account(0, 2));
    }

    private static void lotsExpire() {
        SolarLedger x = Check.garden("garden 1 1 50 100;period 1;");
        x.join(1, 1, 0);
        Check.endMonth(x, 100);
        x.bill(0, 30);
        Check.endMonth(x, 200);
        Check.due("expired after paying", 70, x.account(0, 5));
        Check.due("the fund", 70, x.fund());
        Check.due("the new lot", 200, x.balance(0));
        Check.due("the old lot", 0, x.lot(0, 0));
        Check.endMonth(x, 0);
        Check.due("the fund at last", 270, x.fund());
        Check.due("expired so far", 270, x.account(0, 5));
    }

    private static void debtIsReducedFirst() {
        SolarLedger x = Check.garden("garden 1 5 50 100;period 1;");
        x.join(1, 1, 0);
        x.bill(0, 100);
        Check.endMonth(x, 100);
        x.correct(0, 0, 0);
        x.trueUp();
        Check.due("debt", 100, x.account(0, 0));
        Check.endMonth(x, 60);
        Check.due("debt reduced", 40, x.account(0, 0));
        Check.due("no lot", 0, x.balance(0));
        x.bill(0, 5);
        Check.endMonth(x, 70);
        Check.due("no debt", 0, x.account(0, 0));
        Check.due("the rest becomes a lot", 25, x.lot(0, 2));
    }

    private static void shareDays() {
        SolarLedger x = Check.garden("garden 10 3 50 60;period 1;");
        x.join(4, 4, 0);
        Check.due("operator at first", 0, x.shareDays(0, -1));
        x.passDays(3);
        x.more(0, 2);
        x.passDays(4);
        Check.due("subscriber", 4 * 3 + 6 * 4, x.shareDays(0, 0));
        Check.due("operator", 6 * 3 + 4 * 4, x.shareDays(0, -1));
        x.passDays(23);
        x.endMonth();
        x.passDays(1);
        Check.due("past", 12 + 6 * 27, x.shareDays(0, 0));
        Check.due("past of the operator", 300 - 12 - 6 * 27, x.shareDays(0, -1));
        Check.due("present", 6, x.shareDays(1, 0));
        Check.due("present of the operator", 4, x.shareDays(1, -1));
        Check.fails("month 2", Check.INDEX, () -> x.shareDays(2, 0));
        Check.fails("month -1", Check.INDEX, () -> x.shareDays(-1, 0));
        Check.fails("subscriber 1", Check.INDEX, () -> x.shareDays(0, 1));
        Check.fails("subscriber -2", Check.INDEX, () -> x.shareDays(0, -2));
    }

    private static void generation() {
        SolarLedger x = Check.garden("garden 10 3 50 60;period 1;period 2;hours 1 2 1;");
        x.generate(1, 5);
        Check.due("period 1", 5, x.generation(0, 1));
        Check.due("period 0", 0, x.generation(0, 0));
        Check.fails("period 2", Check.INDEX, () -> x.generation(0, 2));
        Check.fails("period -1", Check.INDEX, () -> x.generation(0, -1));
        Check.fails("month 1", Check.INDEX, () -> x.generation(1, 0));
        Check.fails("month -1", Check.INDEX, () -> x.generation(-1, 0));
        Check.endMonth(x, 8);
        Check.due("the new month", 0, x.generation(1, 1));
        x.correct(0, 1, 50);
        Check.due("before the true-up", 5, x.generation(0, 1));
        x.trueUp();
        Check.due("after the true-up", 50, x.generation(0, 1));
        Check.due("the other period", 8, x.generation(0, 0));
    }
}
