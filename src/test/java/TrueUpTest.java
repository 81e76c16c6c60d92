/** Promises 39 to 41: corrections, the true-up and the sharing of the fund. */
public final class TrueUpTest {
    private TrueUpTest() {
    }

    public static void main(String[] args) {
        correctErrors();
        laterCorrectionCounts();
        positiveTrueUp();
        positiveReducesDebt();
        negativeTrueUp();
        severalMonthsInOrder();
        periodsMayOutweighEachOther();
        dividedByTheShareDaysOfThatMonth();
        singleMillicents();
        shareFundErrors();
        shareFund();
        shareFundReducesDebt();
        Check.finish();
    }

    private static SolarLedger garden() {
        return Check.garden("garden 4 9 0 100;period 1;period 10;hours 12 13 1;");
    }

    private static void correctErrors() {
        SolarLedger x = garden();
        Check.fails("no past month", Check.INDEX, () -> x.correct(0, 0, 1));
        Check.endMonth(x, 8);
        Check.fails("the present month", Check.INDEX, () -> x.correct(1, 0, -1));
        Check.fails("month -1", Check.INDEX, () -> x.correct(-1, 0, 1));
        Check.fails("period 2", Check.INDEX, () -> x.correct(0, 2, 1));
        Check.fails("period -1", Check.INDEX, () -> x.correct(0, -1, 1));
        Check.fails("-1 Wh", Check.ARGUMENT, () -> x.correct(0, 0, -1));
        Check.fails("too many Wh", Check.ARGUMENT, () -> x.correct(0, 0, 1_000_000_001));
        Check.due("the greatest", 8, x.correct(0, 0, 1_000_000_000));
        Check.due("the least", 8, x.correct(0, 0, 0));
        Check.due("counted", 8, x.generation(0, 0));
        Check.due("true-up", -8, x.trueUp());
        Check.due("counted then", 0, x.generation(0, 0));
        Check.due("the operator", 0, x.operatorAccount());
    }

    private static void laterCorrectionCounts() {
        SolarLedger x = garden();
        Check.endMonth(x, 8);
        x.correct(0, 0, 500);
        x.correct(0, 0, 10);
        x.correct(0, 1, 3);
        Check.due("true-up", 2 + 30, x.trueUp());
        Check.due("nothing more", 0, x.trueUp());
        x.correct(0, 0, 20);
        x.correct(0, 0, 10);
        Check.due("corrected back", 0, x.trueUp());
        Check.due("counted", 10, x.generation(0, 0));
        Check.due("the operator", 40, x.operatorAccount());
    }

    private static void positiveTrueUp() {
        SolarLedger x = garden();
        x.join(1, 1, 0);
        x.join(1, 1, 0);
        x.join(1, 1, 0);
        x.assign(0, 1, 100);
        Check.endMonth(x, 400);
        x.leave(2);
        Check.due("the fund", 100, x.fund());
        x.passDays(4);
        x.correct(0, 0, 800);
        Check.due("true-up", 400, x.trueUp());
        Check.due("without passing on", 100, x.lot(0, 1));
        Check.due("the other one", 200 + 100, x.balance(1));
        Check.due("the fund then", 200, x.fund());
        Check.due("the operator", 200, x.operatorAccount());
    }

    private static void positiveReducesDebt() {
        SolarLedger x = garden();
        x.join(1, 1, 0);
        x.bill(0, 100);
        Check.endMonth(x, 400);
        x.correct(0, 0, 0);
        x.trueUp();
        Check.due("debt", 100, x.account(0, 0));
        x.correct(0, 0, 240);
        x.trueUp();
        Check.due("less debt", 40, x.account(0, 0));
        Check.due("no lot", 0, x.balance(0));
        x.correct(0, 0, 500);
        x.trueUp();
        Check.due("no debt", 0, x.account(0, 0));
        Check.due("a lot", 25, x.lot(0, 1));
    }

    private static void negativeTrueUp() {
        SolarLedger x = garden();
        x.join(1, 1, 0);
        x.join(1, 1, 0);
        Check.endMonth(x, 400);
        Check.endMonth(x, 80);
        Check.endMonth(x, 40);
        x.leave(1);
        Check.due("the fund", 130, x.fund());
        x.correct(0, 0, 300);
        Check.due("true-up", -100, x.trueUp());
        Check.due("newest first", 0, x.lot(0, 2));
        Check.due("then the next", 5, x.lot(0, 1));
        Check.due("the oldest", 100, x.lot(0, 0));
        Check.due("the fund pays for who left", 105, x.fund());
        Check.due("the operator", 260 - 50, x.operatorAccount());
        x.bill(0, 90);
        x.passDays(30);
        x.endMonth();
        x.correct(0, 0, 100);
        x.trueUp();
        Check.due("lots are used", 0, x.balance(0));
        Check.due("debt", 35, x.account(0, 0));
        x.correct(0, 0, 0);
        x.trueUp();
        Check.due("more debt", 60, x.account(0, 0));
    }

    private static void severalMonthsInOrder() {
        SolarLedger x = garden();
        x.join(4, 4, 0);
        Check.endMonth(x, 100);
        Check.endMonth(x, 100);
        Check.endMonth(x, 100);
        x.bill(0, 300);
        Check.endMonth(x, 0);
        x.correct(2, 0, 150);
        x.correct(0, 0, 40);
        x.correct(1, 0, 110);
        Check.due("sum", 0, x.trueUp());
        // First 60 of debt, then 10 and 50 reduce it.
        Check.due("debt", 0, x.account(0, 0));
        Check.due("balance", 0, x.balance(0));
        x.correct(0, 0, 80);
        x.correct(1, 0, 0);
        Check.due("sum of both", 40 - 110, x.trueUp());
        Check.due("a new lot is lost again", 0, x.balance(0));
        Check.due("debt then", 70, x.account(0, 0));
    }

    private static void periodsMayOutweighEachOther() {
        SolarLedger x = garden();
        x.join(4, 4, 0);
        x.generate(12, 10);
        Check.endMonth(x, 100);
        x.correct(0, 0, 200);
        x.correct(0, 1, 0);
        Check.due("D is 0", 0, x.trueUp());
        Check.due("period 0", 200, x.generation(0, 0));
        Check.due("period 1", 0, x.generation(0, 1));
        Check.due("balance", 200, x.balance(0));
        Check.due("no new lot", 0, x.lot(0, 1));
    }

    private static void dividedByTheShareDaysOfThatMonth() {
        SolarLedger x = garden();
        x.join(1, 1, 0);
        x.join(2, 2, 0);
        Check.endMonth(x, 4);
        x.reduce(1, 1);
        x.more(0, 2);
        x.passDays(30);
        x.correct(0, 0, 0);
        x.trueUp();
        Check.due("0 has nothing", 0, x.balance(0));
        Check.due("0 owes nothing", 0, x.account(0, 0));
        x.correct(0, 0, 7);
        // 7 by 1, 2 and 1 of 4: 1 3/4, 3 2/4 and 1 3/4; two millicents are left.
        Check.due("D", 7, x.trueUp());
        Check.due("0 then", 2, x.lot(0, 1));
        Check.due("1 then", 3, x.lot(1, 1));
        Check.due("the operator", 2, x.operatorAccount());
    }

    private static void singleMillicents() {
        SolarLedger x = garden();
        x.join(4, 4, 0);
        Check.endMonth(x, 5);
        x.correct(0, 0, 6);
        Check.due("D is 1", 1, x.trueUp());
        Check.due("one more", 6, x.balance(0));
        x.correct(0, 0, 5);
        Check.due("D is -1", -1, x.trueUp());
        Check.due("one less", 5, x.balance(0));
        Check.due("from the newest lot", 0, x.lot(0, 1));
        Check.endMonth(x, 0);
        x.correct(0, 0, 1);
        x.trueUp();
        x.leave(0);
        Check.due("a fund of 1", 1, x.fund());
        x.join(1, 1, 0);
        Check.due("share it", 1, x.shareFund());
        Check.due("to the only one", 1, x.balance(1));
    }

    private static void shareFundErrors() {
        SolarLedger x = garden();
        x.join(1, 1, 0);
        Check.fails("an empty fund", Check.STATE, () -> x.shareFund());
        Check.endMonth(x, 40);
        x.leave(0);
        Check.due("the fund", 10, x.fund());
        Check.fails("nobody is active", Check.STATE, () -> x.shareFund());
        Check.due("the fund stays", 10, x.fund());
        x.join(2, 1, 0);
        Check.due("share it", 10, x.shareFund());
        Check.due("nothing is left", 0, x.fund());
        Check.fails("again", Check.STATE, () -> x.shareFund());
    }

    private static void shareFund() {
        SolarLedger x = Check.garden("garden 10 9 0 100;period 1;");
        x.join(3, 3, 0);
        x.join(3, 3, 0);
        x.join(1, 1, 0);
        x.join(2, 2, 0);
        Check.endMonth(x, 100);
        x.leave(3);
        Check.due("the fund", 20, x.fund());
        x.assign(0, 1, 100);
        // 20 * 3/7 = 8 4/7 twice, 20 * 1/7 = 2 6/7: two millicents are left.
        Check.due("shared", 20, x.shareFund());
        Check.due("0", 9, x.lot(0, 1));
        Check.due("1", 8, x.lot(1, 1));
        Check.due("2", 3, x.lot(2, 1));
        Check.due("who left", 0, x.balance(3));
        Check.due("the operator gets nothing", 10, x.operatorAccount());
        Check.due("the fund then", 0, x.fund());
    }

    private static void shareFundReducesDebt() {
        SolarLedger x = garden();
        x.join(1, 1, 0);
        x.join(1, 1, 0);
        x.bill(0, 100);
        Check.endMonth(x, 400);
        x.leave(1);
        x.correct(0, 0, 200);
        x.trueUp();
        Check.due("debt", 50, x.account(0, 0));
        Check.due("the fund", 50, x.fund());
        x.shareFund();
        Check.due("no debt", 0, x.account(0, 0));
        Check.due("no lot", 0, x.balance(0));
    }
}
