/** Section 4, the true-up and the fund, and promises 39 to 41. */
final class TrueUpBoundaries extends Boundaries {
    private static final int MILLIARD = 1_000_000_000;

    private TrueUpBoundaries() {
    }

    static void run() {
        pastMonths();
        monthsInOrder();
        ratesOfTheTariff();
        dividedByThatMonth();
        positive();
        negative();
        sixteen();
        afterIt();
        negativeFund();
        sharing();
        correct();
        correctIsRefused();
        trueUp();
        shareFund();
    }

    /** Four shares, of which the given ones are held; periods with the rates 1 and 10 (hour 12). */
    private static SolarLedger with(int... shares) {
        SolarLedger x = Check.garden("garden 4 9 0 100;period 1;period 10;hours 12 13 1;");
        for (int held : shares) {
            x.join(held, held, 0);
        }
        return x;
    }

    private static SolarLedger afterOneMonth(int wattHours, int... shares) {
        SolarLedger x = with(shares);
        Check.endMonth(x, wattHours);
        return x;
    }

    private static void trueUpTo(SolarLedger x, int wattHours) {
        x.correct(0, 0, wattHours);
        x.trueUp();
    }

    private static void pastMonths() {
        holds("section 4", "The generation of a past month can be corrected.", () -> {
            SolarLedger x = afterOneMonth(8, 4);
            Check.endMonth(x, 4);
            due(8, x.correct(0, 0, 1));
            due(4, x.correct(1, 0, 1));
            refused(INDEX, () -> afterOneMonth(8, 4), y -> y.correct(1, 0, 1));
        });
    }

    private static void monthsInOrder() {
        holds("section 4", "At a true-up, for each past month with corrections, in order, let D be the "
                + "sum over all periods of the corrected generation minus the one that was counted so "
                + "far, times the rate (of the present tariff).", () -> {
            // Month 0 takes 60 from the lot of month 1 before month 1 gives a new lot of 50.
            SolarLedger x = afterOneMonth(100, 4);
            Check.endMonth(x, 70);
            x.correct(1, 0, 120);
            x.correct(0, 0, 40);
            due(-10, x.trueUp());
            due(100, x.lot(0, 0));
            due(10, x.lot(0, 1));
            due(50, x.lot(0, 2));
        });
        holds("section 4", "minus the one that was counted so far", () -> {
            SolarLedger x = afterOneMonth(8, 4);
            x.correct(0, 0, 10);
            due(2, x.trueUp());
            x.correct(0, 0, 11);
            due(1, x.trueUp());
            x.correct(0, 0, 11);
            due(0, x.trueUp());
            due(11, x.balance(0));
        });
    }

    private static void ratesOfTheTariff() {
        holds("section 4", "times the rate (of the present tariff)", () -> {
            SolarLedger x = afterOneMonth(8, 4);
            x.correct(0, 0, 9);
            x.correct(0, 1, 1);
            due(11, x.trueUp());
            // What one period gains another one loses.
            x.correct(0, 0, 19);
            x.correct(0, 1, 0);
            due(0, x.trueUp());
            due(19, x.generation(0, 0));
            due(0, x.generation(0, 1));
            due(19, x.balance(0));
            SolarLedger greatest = Check.garden("garden 1 9 0 100;period 200;period 200;period 200;"
                    + "period 200;");
            greatest.join(1, 1, 0);
            Check.endMonth(greatest, 0);
            for (int period = 0; period < 4; period++) {
                greatest.correct(0, period, MILLIARD);
            }
            due(800_000_000_000L, greatest.trueUp());
            due(800_000_000_000L, greatest.balance(0));
            for (int period = 0; period < 4; period++) {
                greatest.correct(0, period, 0);
            }
            due(-800_000_000_000L, greatest.trueUp());
            due(0, greatest.balance(0));
            due(0, greatest.account(0, 0));
            SolarLedger free = Check.garden("garden 1 9 0 100;period 0;");
            Check.endMonth(free, 5);
            free.correct(0, 0, 500);
            due(0, free.trueUp());
            due(500, free.generation(0, 0));
        });
    }

    private static void dividedByThatMonth() {
        holds("section 4", "The absolute value of D is divided by the share-days of that month.", () -> {
            SolarLedger x = afterOneMonth(0, 1, 2);
            x.transfer(1, 0, 1);
            x.passDays(30);
            // 7 by 1, 2 and 1 of 4: 1 3/4, 3 2/4 and 1 3/4; two millicents are left.
            trueUpTo(x, 7);
            due(2, x.balance(0));
            due(3, x.balance(1));
            due(2, x.operatorAccount());
            // -7 is divided as 7 is.
            trueUpTo(x, 0);
            due(0, x.balance(0));
            due(0, x.balance(1));
            due(0, x.operatorAccount());
            // 3 of it: 3/4, 1 2/4 and 3/4.
            trueUpTo(x, 7);
            trueUpTo(x, 4);
            due(1, x.balance(0));
            due(2, x.balance(1));
            due(1, x.operatorAccount());
        });
    }

    private static void positive() {
        holds("section 4", "If D is positive, the parts are credited as in section 3: the operator's "
                + "part to the operator's account, those of subscribers who have left to the fund", () -> {
            SolarLedger x = afterOneMonth(0, 1, 1);
            x.leave(1);
            // The single millicent is the operator's, who has the greatest remainder, 2/4.
            trueUpTo(x, 1);
            due(0, x.balance(0));
            due(0, x.fund());
            due(1, x.operatorAccount());
            trueUpTo(x, 5);
            due(1, x.balance(0));
            due(1, x.fund());
            due(3, x.operatorAccount());
        });
        holds("section 4", "those of active ones without passing on, but reducing a debt first, as lots "
                + "of the present month", () -> {
            SolarLedger x = with(1, 1);
            x.assign(0, 1, 100);
            Check.endMonth(x, 0);
            trueUpTo(x, 400);
            due(100, x.lot(0, 1));
            due(100, x.lot(1, 1));
            due(0, x.lot(0, 0));
            int[][] cases = {{396, 1, 0}, {400, 0, 0}, {404, 0, 1}};
            for (int[] one : cases) {
                SolarLedger y = debtor();
                trueUpTo(y, one[0]);
                due(one[1], y.account(0, 0));
                due(one[2], y.lot(0, 1));
            }
        });
    }

    /** 0 has a quarter of the shares and owes 100. */
    private static SolarLedger debtor() {
        SolarLedger x = with(1);
        x.bill(0, 100);
        Check.endMonth(x, 400);
        trueUpTo(x, 0);
        return x;
    }

    private static void negative() {
        holds("section 4", "If D is negative, the operator's part is subtracted from the account, those "
                + "of subscribers who have left from the fund", () -> {
            SolarLedger x = afterOneMonth(400, 1, 1);
            x.leave(1);
            due(100, x.fund());
            trueUpTo(x, 396);
            due(99, x.balance(0));
            due(99, x.fund());
            due(198, x.operatorAccount());
            x.shareFund();
            trueUpTo(x, 0);
            due(-99, x.fund());
            due(0, x.operatorAccount());
        });
        holds("section 4", "active ones lose it from their lots, newest first, and what their lots do "
                + "not cover is added to their debt", () -> {
            // Lots of 50 and 20; what D takes, and what is left of both, and the debt.
            int[][] cases = {{1, 50, 19, 0}, {20, 50, 0, 0}, {21, 49, 0, 0}, {70, 0, 0, 0},
                {71, 0, 0, 1}, {100, 0, 0, 30}};
            for (int[] one : cases) {
                SolarLedger x = afterOneMonth(100, 4);
                x.bill(0, 50);
                Check.endMonth(x, 20);
                due(50, x.lot(0, 0));
                due(20, x.lot(0, 1));
                trueUpTo(x, 100 - one[0]);
                due(one[1], x.lot(0, 0));
                due(one[2], x.lot(0, 1));
                due(one[3], x.account(0, 0));
            }
            SolarLedger more = debtor();
            Check.endMonth(more, 0);
            more.correct(1, 0, 40);
            more.trueUp();
            due(90, more.account(0, 0));
            more.correct(1, 0, 0);
            more.trueUp();
            due(100, more.account(0, 0));
        });
    }

    private static void sixteen() {
        holds("section 4", "The absolute value of D is divided", () -> {
            SolarLedger x = Check.garden("garden 16 9 0 100;period 1;");
            for (int i = 0; i < 16; i++) {
                x.join(1, 1, 0);
            }
            Check.endMonth(x, 0);
            trueUpTo(x, 17);
            due(2, x.balance(0));
            due(1, x.balance(15));
            // Of -16 everyone loses one, so that the rest is that of the first one.
            trueUpTo(x, 1);
            due(1, x.balance(0));
            due(0, x.balance(15));
            trueUpTo(x, 16);
            x.leave(0);
            due(2, x.fund());
            due(2, x.shareFund());
            due(2, x.balance(1));
            due(2, x.balance(2));
            due(0, x.balance(15));
        });
    }

    private static void afterIt() {
        holds("section 4", "After that the corrected generation is the one that counts.", () -> {
            SolarLedger x = afterOneMonth(8, 4);
            x.correct(0, 0, 3);
            due(8, x.generation(0, 0));
            due(8, x.issued(0));
            x.trueUp();
            due(3, x.generation(0, 0));
            due(3, x.issued(0));
            due(0, x.trueUp());
        });
    }

    private static SolarLedger negativeFundLedger() {
        SolarLedger x = debtor();
        x.join(1, 1, 0);
        x.leave(0);
        return x;
    }

    private static void negativeFund() {
        holds("section 4", "The fund may be negative.", () -> {
            due(-100, negativeFundLedger().fund());
            SolarLedger x = negativeFundLedger();
            Check.endMonth(x, 0);
            due(-100, x.fund());
        });
        holds("section 4", "If it is positive, it can be shared", () -> {
            refused(STATE, TrueUpBoundaries::negativeFundLedger, x -> x.shareFund());
            refused(STATE, () -> afterOneMonth(8, 4), x -> x.shareFund());
            SolarLedger x = afterOneMonth(4, 1, 1);
            x.leave(0);
            due(1, x.shareFund());
            due(2, x.balance(1));
        });
    }

    private static void sharing() {
        holds("section 4", "it is divided among the active subscribers by the shares that they hold, in "
                + "the same way (part = fund * shares / (sum of all shares held)), without the operator",
                () -> {
            SolarLedger x = Check.garden("garden 10 9 0 100;period 1;");
            for (int shares : others(3, 3, 1, 2)) {
                x.join(shares, shares, 0);
            }
            Check.endMonth(x, 100);
            x.leave(3);
            x.join(9, 9, 0);
            // 20 by 3, 3 and 1 of 7: 8 4/7 twice and 2 6/7; two are left. 4 waits.
            due(20, x.shareFund());
            due(9, x.lot(0, 1));
            due(8, x.lot(1, 1));
            due(3, x.lot(2, 1));
            due(0, x.balance(3));
            due(0, x.balance(4));
            due(10, x.operatorAccount());
            due(0, x.fund());
        });
        holds("section 4", "(part = fund * shares / (sum of all shares held))", () -> {
            // The greatest fund that 59 months can fill, by the greatest number of shares.
            SolarLedger x = Check.garden("garden 100000 1 0 100;period 200;period 200;period 200;"
                    + "period 200;hours 1 2 1;hours 2 3 2;hours 3 4 3;");
            x.join(99_999, 1, 0);
            x.join(1, 1, 0);
            for (int month = 0; month < 59; month++) {
                for (int hour = 0; hour < 4; hour++) {
                    x.generate(hour, MILLIARD);
                }
                x.passDays(30);
                x.endMonth();
            }
            due(58 * 800_000_000_000L, x.fund());
            due(58 * 800_000_000_000L, x.shareFund());
            due(58 * 799_992_000_000L, x.lot(0, 59));
            due(58 * 8_000_000L, x.lot(1, 59));
        });
        holds("section 4", "the parts are credited like those of a positive true-up", () -> {
            SolarLedger x = with(1, 1, 1);
            x.bill(0, 50);
            x.assign(1, 0, 100);
            Check.endMonth(x, 400);
            x.leave(2);
            due(150, x.lot(0, 0));
            due(100, x.shareFund());
            // Nothing is passed on.
            due(50, x.lot(0, 1));
            due(50, x.lot(1, 1));
            // A debt is reduced first.
            SolarLedger y = with(1, 1);
            y.bill(0, 100);
            Check.endMonth(y, 400);
            trueUpTo(y, 80);
            due(80, y.account(0, 0));
            y.leave(1);
            due(20, y.fund());
            y.shareFund();
            due(60, y.account(0, 0));
            due(0, y.balance(0));
        });
    }

    private static void correct() {
        holds("promise 39", "`wattHours`: the corrected generation, 0 to 1,000,000,000", () -> {
            SolarLedger x = afterOneMonth(8, 4);
            due(8, x.correct(0, 0, 0));
            due(-8, x.trueUp());
            due(0, x.correct(0, 0, MILLIARD));
            due(MILLIARD, x.trueUp());
            due(MILLIARD, x.generation(0, 0));
            due(MILLIARD, x.correct(0, 0, 0));
            due(-MILLIARD, x.trueUp());
        });
        holds("promise 39", "Returns the generation that counts so far.", () -> {
            SolarLedger x = afterOneMonth(8, 4);
            due(8, x.correct(0, 0, 5));
            due(8, x.correct(0, 0, 6));
            due(0, x.correct(0, 1, 6));
            x.trueUp();
            due(6, x.correct(0, 0, 7));
        });
        holds("promise 39", "It counts from the next true-up on.", () -> {
            SolarLedger x = afterOneMonth(8, 4);
            x.correct(0, 0, 100);
            due(8, x.generation(0, 0));
            due(8, x.balance(0));
            Check.endMonth(x, 0);
            due(8, x.balance(0));
            due(8, x.issued(0));
            due(92, x.trueUp());
            due(100, x.balance(0));
            due(92, x.lot(0, 2));
        });
        holds("promise 39", "Corrects the generation of a past month.", () -> {
            SolarLedger x = afterOneMonth(8, 4);
            // The latest correction of a period is the one that counts.
            x.correct(0, 0, 100);
            x.correct(0, 0, 9);
            due(1, x.trueUp());
            x.correct(0, 0, 100);
            x.correct(0, 0, 9);
            due(0, x.trueUp());
            due(9, x.balance(0));
        });
    }

    private static void correctIsRefused() {
        holds("promise 39", "`month`: a past month", () -> {
            due(8, afterOneMonth(8, 4).correct(0, 0, 1));
            refused(INDEX, () -> with(4), x -> x.correct(0, 0, 1));
            refused(INDEX, () -> afterOneMonth(8, 4), x -> x.correct(1, 0, 1));
        });
        holds("promise 39", "Throws `IndexOutOfBoundsException` if the month is no past month or the "
                + "period does not exist", () -> {
            refusedForEach(INDEX, () -> afterOneMonth(8, 4), others(-1, 1, 2, 59, 60, LEAST, GREATEST),
                    (x, m) -> x.correct(m, 0, 1));
            refusedForEach(INDEX, () -> afterOneMonth(8, 4), others(-1, 2, 3, 4, LEAST, GREATEST),
                    (x, p) -> x.correct(0, p, 1));
        });
        holds("promise 39", "Throws `IllegalArgumentException` if wattHours is out of range", () ->
            refusedForEach(ARGUMENT, () -> afterOneMonth(8, 4),
                    others(-1, MILLIARD + 1, LEAST, GREATEST), (x, wh) -> x.correct(0, 0, wh)));
    }

    private static void trueUp() {
        holds("promise 40", "Without corrections nothing changes but that it is a change.", () -> {
            SolarLedger x = afterOneMonth(8, 1, 2);
            String before = Look.books(x);
            due(0, x.trueUp());
            due(before, Look.books(x));
            SolarLedger fresh = new SolarLedger();
            due(0, fresh.trueUp());
            due(0, fresh.trueUp());
            due(2, undoable(fresh));
        });
        holds("promise 40", "Trues up all corrections (section 4).", () -> {
            SolarLedger x = afterOneMonth(8, 4);
            for (int month = 1; month < 59; month++) {
                Check.endMonth(x, 8);
            }
            for (int month = 0; month < 59; month++) {
                x.correct(month, 0, 9);
            }
            due(59, x.trueUp());
            due(9, x.generation(0, 0));
            due(9, x.generation(58, 0));
            due(59, x.lot(0, 59));
            due(0, x.trueUp());
        });
    }

    private static void shareFund() {
        holds("promise 41", "Shares the fund (section 4).", () -> {
            SolarLedger x = afterOneMonth(40, 1, 1);
            x.leave(0);
            due(10, x.fund());
            due(10, x.shareFund());
            due(0, x.fund());
            due(20, x.balance(1));
            due(10, x.lot(1, 1));
        });
        holds("promise 41", "Throws `IllegalStateException` if the fund is not positive", () -> {
            refused(STATE, TrueUpBoundaries::negativeFundLedger, x -> x.shareFund());
            refused(STATE, () -> with(4), x -> x.shareFund());
            refused(STATE, () -> {
                SolarLedger x = afterOneMonth(4, 1, 1);
                x.leave(0);
                x.shareFund();
                return x;
            }, x -> x.shareFund());
        });
        holds("promise 41", "or no subscriber is active", () -> {
            Maker deserted = () -> {
                SolarLedger x = afterOneMonth(40, 1);
                x.leave(0);
                return x;
            };
            due(10, deserted.make().fund());
            refused(STATE, deserted, x -> x.shareFund());
            SolarLedger x = deserted.make();
            x.join(1, 1, 0);
            due(10, x.shareFund());
            due(10, x.balance(1));
            // One who waits is not active: the limit leaves it one share, and it wants two.
            refused(STATE, () -> {
                SolarLedger y = Check.garden("garden 4 9 0 25;period 1;");
                y.join(1, 1, 0);
                Check.endMonth(y, 40);
                y.leave(0);
                y.join(2, 2, 0);
                return y;
            }, y -> y.shareFund());
        });
    }
}
