/** Promises 12 and 32 to 38: lots, accounts, the exit with a buyout, the fund and the operator. */
public final class CreditsTest {
    private CreditsTest() {
    }

    public static void main(String[] args) {
        lookErrors();
        balanceAndLots();
        accountsOfOneWhoStays();
        exitWithBuyout();
        exitWithDebt();
        exitWithGreaterDebt();
        exitInTheMiddleOfAMonth();
        greatAmounts();
        Check.finish();
    }

    private static void lookErrors() {
        SolarLedger x = new SolarLedger();
        x.join(1, 1, 0);
        int[] nobody = {-1, 1, Integer.MIN_VALUE, Integer.MAX_VALUE};
        for (int s : nobody) {
            Check.fails("balance of " + s, Check.INDEX, () -> x.balance(s));
            Check.fails("lot of " + s, Check.INDEX, () -> x.lot(s, 0));
            Check.fails("account of " + s, Check.INDEX, () -> x.account(s, 9));
            Check.fails("expiring of " + s, Check.INDEX, () -> x.expiring(s));
            Check.fails("lot of month " + s, Check.INDEX, () -> x.lot(0, s));
        }
        Check.fails("account 6", Check.ARGUMENT, () -> x.account(0, 6));
        Check.fails("account -1", Check.ARGUMENT, () -> x.account(0, -1));
        for (int what = 0; what < 6; what++) {
            Check.due("account " + what, 0, x.account(0, what));
        }
        Check.due("balance", 0, x.balance(0));
        Check.due("lot", 0, x.lot(0, 0));
    }

    private static void balanceAndLots() {
        SolarLedger x = Check.garden("garden 2 3 50 100;period 1;");
        x.join(1, 1, 0);
        Check.endMonth(x, 10);
        Check.endMonth(x, 30);
        Check.due("balance", 20, x.balance(0));
        Check.due("lot 0", 5, x.lot(0, 0));
        Check.due("lot 1", 15, x.lot(0, 1));
        Check.due("lot of the present month", 0, x.lot(0, 2));
        Check.due("the operator", 20, x.operatorAccount());
        x.correct(0, 0, 18);
        x.trueUp();
        Check.due("a lot by true-up", 4, x.lot(0, 2));
        Check.endMonth(x, 2);
        Check.due("added to that lot", 5, x.lot(0, 2));
        Check.due("the operator then", 25, x.operatorAccount());
    }

    private static void accountsOfOneWhoStays() {
        SolarLedger x = Check.garden("garden 1 1 50 100;period 1;");
        x.join(1, 1, 0);
        x.bill(0, 30);
        Check.endMonth(x, 50);
        x.bill(0, 8);
        x.bill(0, 1);
        Check.endMonth(x, 0);
        x.correct(0, 0, 0);
        x.trueUp();
        x.bill(0, 4);
        long[] due = {50, 4, 0, 0, 39, 11};
        for (int what = 0; what < due.length; what++) {
            Check.due("account " + what, due[what], x.account(0, what));
        }
        Check.endMonth(x, 0);
        Check.due("due in cash", 4, x.account(0, 2));
        Check.due("no bill", 0, x.account(0, 1));
        Check.due("the fund", 11, x.fund());
    }

    private static void exitWithBuyout() {
        SolarLedger x = Check.garden("garden 2 3 33 100;period 1;");
        x.join(1, 1, 0);
        Check.endMonth(x, 100);
        Check.endMonth(x, 102);
        x.bill(0, 60);
        Check.due("33 percent of 101", 33, x.leave(0));
        Check.due("the fund", 68, x.fund());
        long[] due = {0, 0, 60, 33, 0, 0};
        for (int what = 0; what < due.length; what++) {
            Check.due("account " + what, due[what], x.account(0, what));
        }
        Check.due("balance", 0, x.balance(0));
        Check.due("lot", 0, x.lot(0, 1));
        Check.endMonth(x, 0);
        Check.due("due in cash only once", 60, x.account(0, 2));
        Check.due("nothing expires", 68, x.fund());
        SolarLedger y = Check.garden("garden 2 3 100 100;period 1;");
        y.join(2, 2, 0);
        Check.endMonth(y, 77);
        Check.due("all", 77, y.leave(0));
        Check.due("nothing for the fund", 0, y.fund());
    }

    private static void exitWithDebt() {
        SolarLedger x = Check.garden("garden 1 5 50 100;period 1;");
        x.join(1, 1, 0);
        x.bill(0, 50);
        Check.endMonth(x, 50);
        x.correct(0, 0, 20);
        x.trueUp();
        Check.due("debt", 30, x.account(0, 0));
        Check.due("nothing to pay out", 0, x.leave(0));
        Check.due("the fund pays the debt", -30, x.fund());
        Check.due("no debt", 0, x.account(0, 0));
        Check.fails("a negative fund is not shared", Check.STATE, () -> x.shareFund());
    }

    private static void exitWithGreaterDebt() {
        SolarLedger x = Check.garden("garden 2 5 50 100;period 1;");
        x.join(1, 1, 0);
        x.join(1, 1, 0);
        x.bill(0, 70);
        Check.endMonth(x, 100);
        Check.due("due in cash", 20, x.account(0, 2));
        x.correct(0, 0, 40);
        x.trueUp();
        Check.due("debt", 30, x.account(0, 0));
        Check.due("the other one has lots", 20, x.balance(1));
        x.leave(0);
        x.leave(1);
        Check.due("paid out", 10, x.account(1, 3));
        Check.due("the fund", -20, x.fund());
    }

    private static void exitInTheMiddleOfAMonth() {
        SolarLedger x = Check.garden("garden 1 5 50 100;period 1;");
        x.join(1, 1, 0);
        x.passDays(10);
        x.leave(0);
        x.join(1, 1, 0);
        x.generate(0, 90);
        x.passDays(20);
        x.endMonth();
        Check.due("the part of who left", 30, x.fund());
        Check.due("the part of the new one", 60, x.balance(1));
        Check.due("share the fund", 30, x.shareFund());
        Check.due("a lot of the present month", 30, x.lot(1, 1));
    }

    private static void greatAmounts() {
        SolarLedger x = Check.garden("garden 100000 1 0 100;"
                + "period 200;period 200;period 200;period 200;hours 1 2 1;hours 2 3 2;hours 3 4 3;");
        x.join(99_999, 1, 0);
        x.join(1, 1, 0);
        for (int month = 0; month < 59; month++) {
            for (int hour = 0; hour < 4; hour++) {
                x.generate(hour, 1_000_000_000);
            }
            x.passDays(30);
            Check.due("divided", 800_000_000_000L, x.endMonth());
        }
        Check.due("balance", 799_992_000_000L, x.balance(0));
        Check.due("the fund", 58 * 800_000_000_000L, x.fund());
        Check.due("share it", 46_400_000_000_000L, x.shareFund());
        Check.due("the great part", 799_992_000_000L + 46_399_536_000_000L, x.balance(0));
        Check.due("the small part", 8_000_000 + 464_000_000, x.balance(1));
        Check.due("a description", "0:active 99999 47199528000.000", Check.description(x, 0));
        Check.due("nothing paid out", 0, x.leave(0));
        Check.due("the fund again", 47_199_528_000_000L, x.fund());
    }
}
