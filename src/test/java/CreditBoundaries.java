/** Section 4, the exits, and promises 32 to 34, 37 and 38: lots, accounts and the fund. */
final class CreditBoundaries extends Boundaries {
    private static final int[] NOBODY = {-1, 3, 16, LEAST, GREATEST};

    private CreditBoundaries() {
    }

    static void run() {
        exitWithDebt();
        exitWithLots();
        exitWithBill();
        exitEndsAssignments();
        exitFreesShares();
        balance();
        lot();
        account();
        accountsAreRefused();
        fund();
        operatorAccount();
    }

    /** The only subscriber, with all shares, in month 1. */
    private static SolarLedger single(int buyout, int wattHours) {
        SolarLedger x = Check.garden("garden 1 3 " + buyout + " 100;period 1;");
        x.join(1, 1, 0);
        Check.endMonth(x, wattHours);
        return x;
    }

    /** 0 is active with 4 of 10 shares and lots of 40 and 8, 1 waits, 2 has left; it is month 2. */
    private static SolarLedger small() {
        SolarLedger x = Check.garden("garden 10 2 50 60;period 1;");
        x.join(4, 4, 0);
        x.join(7, 7, 0);
        x.join(1, 1, 0);
        x.leave(2);
        Check.endMonth(x, 100);
        Check.endMonth(x, 20);
        return x;
    }

    /** The only subscriber owes something. */
    private static SolarLedger debtor(int debt) {
        SolarLedger x = Check.garden("garden 1 3 100 100;period 1;");
        x.join(1, 1, 0);
        x.bill(0, debt);
        Check.endMonth(x, debt);
        x.correct(0, 0, 0);
        x.trueUp();
        return x;
    }

    private static void exitWithDebt() {
        holds("section 4", "If an active subscriber leaves, first its debt is reduced by its lots as far "
                + "as they suffice (a debt that is left is subtracted from the fund).", () -> {
            for (int debt : others(1, 100, 1_000_000_000)) {
                SolarLedger x = debtor(debt);
                due(debt, x.account(0, 0));
                due(0, x.leave(0));
                due(-debt, x.fund());
                due(0, x.account(0, 0));
                due(0, x.account(0, 3));
            }
            // A debt that was reduced to 0 before leaves nothing to subtract.
            SolarLedger y = debtor(100);
            Check.endMonth(y, 101);
            due(1, y.leave(0));
            due(0, y.fund());
        });
    }

    private static void exitWithLots() {
        holds("section 4", "Of what is left of its lots, buyout percent are paid out, rounded down, and "
                + "the rest is added to the fund.", () -> {
            int[][] cases = {{0, 77, 0}, {100, 77, 77}, {50, 77, 38}, {33, 100, 33}, {33, 101, 33},
                {99, 1, 0}, {1, 99, 0}, {1, 100, 1}, {50, 0, 0}};
            for (int[] one : cases) {
                SolarLedger x = single(one[0], one[1]);
                due(one[2], x.leave(0));
                due(one[1] - one[2], x.fund());
                due(one[2], x.account(0, 3));
                due(0, x.balance(0));
            }
            // The percentage is of the sum of the lots: 1 of 2 that are two lots of 1.
            SolarLedger x = single(50, 1);
            Check.endMonth(x, 1);
            due(1, x.leave(0));
            due(1, x.fund());
            // What is in the fund already stays there.
            SolarLedger y = Check.garden("garden 2 3 50 100;period 1;");
            y.join(1, 1, 0);
            y.join(1, 1, 0);
            Check.endMonth(y, 20);
            y.leave(0);
            due(5, y.fund());
            y.leave(1);
            due(10, y.fund());
        });
    }

    private static void exitWithBill() {
        holds("section 4", "Its bill of the month is due in cash.", () -> {
            SolarLedger x = single(50, 100);
            x.bill(0, 60);
            due(50, x.leave(0));
            due(60, x.account(0, 2));
            due(0, x.account(0, 4));
            Check.endMonth(x, 0);
            due(60, x.account(0, 2));
            SolarLedger none = single(50, 100);
            none.leave(0);
            due(0, none.account(0, 2));
        });
    }

    private static void exitEndsAssignments() {
        holds("section 4", "All assignments of it and to it end.", () -> {
            SolarLedger x = Check.garden("garden 4 3 50 100;period 1;");
            for (int i = 0; i < 4; i++) {
                x.join(1, 1, 0);
            }
            x.assign(0, 1, 10);
            x.assign(2, 1, 10);
            x.assign(1, 3, 10);
            x.leave(1);
            due("0:active 1 0.000", Check.description(x, 0));
            due("2:active 1 0.000", Check.description(x, 2));
            x.generate(0, 400);
            due(100, x.projectedCredit(0));
            due(100, x.projectedCredit(2));
            due(100, x.projectedCredit(3));
            // Nothing comes back from who has left: it is refused as not active, not as a circle.
            Maker left = () -> {
                SolarLedger z = Check.garden("garden 4 3 50 100;period 1;");
                z.join(1, 1, 0);
                z.join(1, 1, 0);
                z.assign(0, 1, 10);
                z.leave(0);
                return z;
            };
            refused(STATE, left, z -> z.assign(1, 0, 10));
            // Those of others stay.
            SolarLedger y = Check.garden("garden 4 3 50 100;period 1;");
            for (int i = 0; i < 4; i++) {
                y.join(1, 1, 0);
            }
            y.assign(0, 1, 10);
            y.leave(2);
            due("0:active 1 0.000 ->1:10%", Check.description(y, 0));
        });
    }

    private static void exitFreesShares() {
        holds("section 4", "Its shares become free, and the waiting list is gone through.", () -> {
            SolarLedger x = SubscriberBoundaries.crowd();
            x.join(20, 11, 0);
            due(0, x.state(4));
            x.leave(0);
            due(60, x.shares(2));
            due(0, x.freeShares());
            due(0, x.state(4));
            x.leave(1);
            due(20, x.shares(4));
            due(20, x.freeShares());
        });
        holds("section 4", "Share-days that it has in the month stay.", () -> {
            SolarLedger x = small();
            x.passDays(3);
            x.leave(0);
            due(12, x.shareDays(2, 0));
            due(120, x.shareDays(0, 0));
            x.passDays(27);
            due(12, x.shareDays(2, 0));
            x.generate(0, 300);
            x.endMonth();
            due(24 + 12, x.fund());
        });
    }

    private static void balance() {
        holds("promise 32", "Returns the sum of the lots of a subscriber.", () -> {
            due(48, small().balance(0));
            due(0, small().balance(1));
            due(0, small().balance(2));
        });
        holds("promise 32", "Throws `IndexOutOfBoundsException` if the subscriber does not exist", () ->
            refusedForEach(INDEX, CreditBoundaries::small, NOBODY, (x, s) -> x.balance(s)));
    }

    private static void lot() {
        holds("promise 33", "`month`: a month, 0 to the present one", () -> {
            due(40, small().lot(0, 0));
            due(8, small().lot(0, 1));
            due(0, small().lot(0, 2));
        });
        holds("promise 33", "Returns the amount, 0 if there is no lot of this month.", () -> {
            due(0, small().lot(0, 2));
            due(0, small().lot(1, 0));
            due(0, small().lot(2, 0));
            SolarLedger x = small();
            x.leave(0);
            due(0, x.lot(0, 0));
        });
        holds("promise 33", "Returns what is left of a lot.", () -> {
            // The bill takes 40 of the first lot and 1 of the second one.
            SolarLedger x = small();
            x.bill(0, 41);
            x.passDays(30);
            due(40, x.lot(0, 0));
            x.endMonth();
            due(0, x.lot(0, 0));
            due(7, x.lot(0, 1));
        });
        holds("promise 33", "Throws `IndexOutOfBoundsException` if the subscriber or the month does not "
                + "exist", () -> {
            refusedForEach(INDEX, CreditBoundaries::small, NOBODY, (x, s) -> x.lot(s, 0));
            refusedForEach(INDEX, CreditBoundaries::small, others(-1, 3, 60, 71, 72, LEAST, GREATEST),
                    (x, m) -> x.lot(0, m));
        });
    }

    private static void accounts(SolarLedger x, long... want) {
        for (int what = 0; what < want.length; what++) {
            due(want[what], x.account(0, what));
        }
    }

    private static void account() {
        holds("promise 34", "`what`: 0: debt; 1: bill of the present month; 2: due in cash so far; 3: "
                + "paid out at the exit; 4: paid by lots so far; 5: expired so far", () -> {
            accounts(single(50, 0), 0, 0, 0, 0, 0, 0);
            // 100 of month 0: 60 pay a bill, 40 expire; then 100 are taken back.
            SolarLedger x = single(50, 100);
            x.bill(0, 60);
            Check.endMonth(x, 0);
            accounts(x, 0, 0, 0, 0, 60, 0);
            Check.endMonth(x, 0);
            Check.endMonth(x, 0);
            accounts(x, 0, 0, 0, 0, 60, 40);
            x.bill(0, 7);
            accounts(x, 0, 7, 0, 0, 60, 40);
            Check.endMonth(x, 0);
            accounts(x, 0, 0, 7, 0, 60, 40);
            x.correct(0, 0, 0);
            x.trueUp();
            accounts(x, 100, 0, 7, 0, 60, 40);
            Check.endMonth(x, 111);
            x.bill(0, 1);
            x.leave(0);
            accounts(x, 0, 0, 8, 5, 60, 40);
        });
    }

    private static void accountsAreRefused() {
        holds("promise 34", "Throws `IndexOutOfBoundsException` if the subscriber does not exist", () ->
            refusedForEach(INDEX, CreditBoundaries::small, NOBODY, (x, s) -> x.account(s, 0)));
        holds("promise 34", "Throws `IllegalArgumentException` for any other what", () ->
            refusedForEach(ARGUMENT, CreditBoundaries::small, others(-1, 6, LEAST, GREATEST),
                    (x, what) -> x.account(0, what)));
    }

    private static void fund() {
        holds("promise 37", "Returns the fund, which may be negative.", () -> {
            due(0, new SolarLedger().fund());
            SolarLedger x = debtor(70);
            x.leave(0);
            due(-70, x.fund());
            x.correct(0, 0, 30);
            x.trueUp();
            due(-40, x.fund());
            x.correct(0, 0, 100);
            x.trueUp();
            due(30, x.fund());
        });
    }

    private static void operatorAccount() {
        holds("promise 38", "Returns the account, which may be negative.", () -> {
            due(0, new SolarLedger().operatorAccount());
            // Of 2 the operator with 2/3 gets 1 1/3, and the subscriber the millicent that is left.
            SolarLedger x = Check.garden("garden 3 3 50 100;period 1;");
            x.join(1, 1, 0);
            Check.endMonth(x, 2);
            due(1, x.operatorAccount());
            // Each single millicent that is taken back is the operator's.
            x.correct(0, 0, 1);
            x.trueUp();
            due(0, x.operatorAccount());
            x.correct(0, 0, 0);
            x.trueUp();
            due(-1, x.operatorAccount());
            due(1, x.balance(0));
        });
    }
}
