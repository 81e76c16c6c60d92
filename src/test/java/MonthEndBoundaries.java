/** Section 3: share-days, the division of an amount, and the five steps of the end of a month. */
final class MonthEndBoundaries extends Boundaries {
    private MonthEndBoundaries() {
    }

    static void run() {
        days();
        roundedDown();
        greatestRemainders();
        equalRemainders();
        whatIsDivided();
        partsOfOthers();
        passingOn();
        debtFirst();
        lots();
        bills();
        cash();
        expiry();
    }

    private static SolarLedger garden(int capacity, int expiry) {
        return Check.garden("garden " + capacity + " " + expiry + " 0 100;period 1;");
    }

    /** Subscribers with the given shares. */
    private static SolarLedger with(int capacity, int... shares) {
        SolarLedger x = garden(capacity, 3);
        for (int held : shares) {
            x.join(held, held, 0);
        }
        return x;
    }

    private static void balances(SolarLedger x, long... want) {
        for (int s = 0; s < want.length; s++) {
            due(want[s], x.balance(s));
        }
    }

    private static void days() {
        holds("section 3", "Months are numbered from 0, and each month has 30 days.", () -> {
            SolarLedger x = with(10, 4);
            due(0, x.month());
            due(30, x.passDays(30));
            Check.fails("a 31st day", STATE, () -> x.passDays(1));
            x.endMonth();
            due(1, x.month());
            due(29, x.passDays(29));
            Check.fails("29 days", STATE, () -> x.endMonth());
        });
        holds("section 3", "When a day passes, each active subscriber gets as many share-days for the "
                + "month as it holds shares.", () -> {
            SolarLedger x = with(10, 4, 5, 2);
            x.passDays(1);
            due(4, x.shareDays(0, 0));
            due(5, x.shareDays(0, 1));
            due(0, x.shareDays(0, 2));
            x.leave(0);
            x.passDays(2);
            due(4, x.shareDays(0, 0));
            due(15, x.shareDays(0, 1));
            due(4, x.shareDays(0, 2));
        });
        holds("section 3", "The operator has 30 * capacity minus the share-days of all subscribers.", () -> {
            SolarLedger nobody = with(10);
            Check.endMonth(nobody, 7);
            due(300, nobody.shareDays(0, NONE));
            due(7, nobody.operatorAccount());
            SolarLedger all = with(10, 4, 6);
            Check.endMonth(all, 10);
            due(0, all.shareDays(0, NONE));
            due(0, all.operatorAccount());
            SolarLedger left = with(10, 4, 6);
            left.passDays(10);
            left.leave(0);
            left.passDays(20);
            due(300 - 40 - 180, left.shareDays(0, NONE));
        });
    }

    private static void roundedDown() {
        holds("section 3", "the part is V * w / (30 * capacity), rounded down", () -> {
            // 11 * 4/10 = 4.4 and 11 * 6/10 = 6.6: the greater remainder is the operator's.
            SolarLedger x = with(10, 4);
            Check.endMonth(x, 11);
            due(4, x.balance(0));
            due(7, x.operatorAccount());
            SolarLedger exact = with(10, 4);
            Check.endMonth(exact, 10);
            due(4, exact.balance(0));
            due(6, exact.operatorAccount());
            SolarLedger greatest = Check.garden("garden 100000 1 1 100;period 200;period 200;period 200;"
                    + "period 200;hours 1 2 1;hours 2 3 2;hours 3 4 3;");
            greatest.join(99_999, 1, 0);
            for (int hour = 0; hour < 4; hour++) {
                greatest.generate(hour, 1_000_000_000);
            }
            greatest.passDays(30);
            due(800_000_000_000L, greatest.endMonth());
            due(799_992_000_000L, greatest.balance(0));
            due(8_000_000, greatest.operatorAccount());
        });
    }

    private static void greatestRemainders() {
        holds("section 3", "the millicents that are left are given, one each, to the participants with "
                + "the greatest remainders of this division", () -> {
            // 10 by 2, 2 and 3 of 7: 2 6/7 twice and 4 2/7; two are left.
            SolarLedger two = with(7, 2, 2, 3);
            Check.endMonth(two, 10);
            balances(two, 3, 3, 4);
            // 1 by the same: 2/7 twice and 3/7; one is left.
            SolarLedger one = with(7, 2, 2, 3);
            Check.endMonth(one, 1);
            balances(one, 0, 0, 1);
            // 7: nothing is left.
            SolarLedger none = with(7, 2, 2, 3);
            Check.endMonth(none, 7);
            balances(none, 2, 2, 3);
            // 15 by 16 equal ones: 15 are left, one each.
            SolarLedger many = with(16, 1, 1, 1, 1, 1, 1, 1, 1, 1, 1, 1, 1, 1, 1, 1, 1);
            Check.endMonth(many, 15);
            balances(many, 1, 1, 1, 1, 1, 1, 1, 1, 1, 1, 1, 1, 1, 1, 1, 0);
            // Remainders of 9/10 and 1/10: who has no share-days gets nothing.
            SolarLedger idle = with(10, 9, 2);
            Check.endMonth(idle, 1);
            balances(idle, 1, 0);
            due(0, idle.operatorAccount());
        });
    }

    private static void equalRemainders() {
        holds("section 3", "equal ones in the order of their numbers, the operator behind all "
                + "subscribers", () -> {
            SolarLedger x = with(4, 1, 1, 1);
            Check.endMonth(x, 1);
            balances(x, 1, 0, 0);
            SolarLedger y = with(4, 1, 1, 1);
            Check.endMonth(y, 3);
            balances(y, 1, 1, 1);
            due(0, y.operatorAccount());
            SolarLedger z = with(2, 1);
            Check.endMonth(z, 1);
            due(1, z.balance(0));
            due(0, z.operatorAccount());
            // The operator's greater remainder counts more than its place: 2 by 1 and 2 of 3.
            SolarLedger w = with(3, 1);
            Check.endMonth(w, 1);
            due(0, w.balance(0));
            due(1, w.operatorAccount());
            // Priorities do not matter here.
            SolarLedger p = garden(2, 3);
            p.join(1, 1, 0);
            p.join(1, 1, 9);
            Check.endMonth(p, 1);
            balances(p, 1, 0);
        });
        holds("section 3", "let w be the share-days of a participant (each subscriber, and the "
                + "operator)", () -> {
            SolarLedger x = with(2, 1);
            x.passDays(15);
            x.leave(0);
            x.join(1, 1, 0);
            x.passDays(15);
            x.generate(0, 100);
            due(100, x.endMonth());
            due(25, x.fund());
            due(25, x.balance(1));
            due(50, x.operatorAccount());
        });
    }

    private static void whatIsDivided() {
        holds("section 3", "The sum over all periods of the generation in Wh times the rate is divided "
                + "by the share-days of the month.", () -> {
            SolarLedger x = Check.garden("garden 1 1 1 100;period 0;period 1;period 200;"
                    + "hours 1 2 1;hours 2 3 2;");
            x.join(1, 1, 0);
            x.generate(0, 1000);
            x.generate(1, 10);
            x.generate(2, 3);
            x.passDays(30);
            due(610, x.endMonth());
            due(610, x.balance(0));
            // A month without generation.
            x.passDays(30);
            due(0, x.endMonth());
            due(0, x.lot(0, 1));
        });
        holds("section 3", "At the end of a month:", () -> {
            SolarLedger x = with(1, 1);
            x.generate(0, 9);
            x.passDays(30);
            due(0, x.balance(0));
            x.endMonth();
            due(9, x.balance(0));
        });
    }

    private static void partsOfOthers() {
        holds("section 3", "The operator's part is added to the operator's account.", () -> {
            SolarLedger x = with(4, 1);
            Check.endMonth(x, 40);
            due(30, x.operatorAccount());
            Check.endMonth(x, 4);
            due(33, x.operatorAccount());
        });
        holds("section 3", "The parts of subscribers who have left are added to the fund.", () -> {
            SolarLedger x = with(2, 1, 1);
            x.passDays(30);
            x.leave(0);
            x.leave(1);
            x.generate(0, 41);
            x.endMonth();
            due(41, x.fund());
            due(0, x.balance(0));
            due(0, x.account(0, 3));
        });
    }

    private static void passingOn() {
        holds("section 3", "An active subscriber receives its part and what is assigned to it.", () -> {
            SolarLedger x = with(4, 1, 1, 1, 1);
            x.assign(0, 3, 100);
            x.assign(1, 3, 50);
            x.assign(2, 3, 1);
            Check.endMonth(x, 400);
            balances(x, 0, 50, 99, 251);
        });
        holds("section 3", "If it has an assignment, percentage / 100 of all that it receives, rounded "
                + "down, is passed on to the other one, and the rest is its credit; otherwise all is its "
                + "credit.", () -> {
            SolarLedger x = with(3, 1, 1, 1);
            x.assign(0, 1, 99);
            Check.endMonth(x, 3);
            balances(x, 1, 1, 1);
            SolarLedger y = with(3, 1, 1, 1);
            y.assign(0, 1, 50);
            Check.endMonth(y, 9);
            balances(y, 2, 4, 3);
            // All that it receives: 101 and 50 of 100; a third of 151 is 49.83.
            SolarLedger z = with(3, 1, 1, 1);
            z.assign(2, 1, 50);
            z.assign(1, 0, 33);
            Check.endMonth(z, 303);
            balances(z, 101 + 49, 151 - 49, 51);
            // The longest chain, against the order of the numbers.
            SolarLedger all = with(16, 1, 1, 1, 1, 1, 1, 1, 1, 1, 1, 1, 1, 1, 1, 1, 1);
            for (int s = 15; s > 0; s--) {
                all.assign(s, s - 1, 100);
            }
            Check.endMonth(all, 160);
            due(160, all.balance(0));
            due(0, all.balance(15));
        });
    }

    /** The only subscriber owes 100. */
    private static SolarLedger debtor() {
        SolarLedger x = with(1, 1);
        x.bill(0, 100);
        Check.endMonth(x, 100);
        x.correct(0, 0, 0);
        x.trueUp();
        return x;
    }

    private static void debtFirst() {
        holds("section 3", "If the subscriber owes something, its credit first reduces this debt.", () -> {
            long[][] cases = {{0, 100, 0}, {1, 99, 0}, {99, 1, 0}, {100, 0, 0}, {101, 0, 1}};
            for (long[] one : cases) {
                SolarLedger x = debtor();
                due(100, x.account(0, 0));
                Check.endMonth(x, (int) one[0]);
                due(one[1], x.account(0, 0));
                due(one[2], x.lot(0, 1));
            }
            // The debt comes before the bill.
            SolarLedger x = debtor();
            x.bill(0, 60);
            Check.endMonth(x, 100);
            due(0, x.account(0, 0));
            due(60, x.account(0, 2));
            // What a debtor passes on does not reduce its debt.
            SolarLedger y = with(2, 1, 1);
            y.bill(0, 100);
            Check.endMonth(y, 200);
            y.correct(0, 0, 0);
            y.trueUp();
            y.assign(0, 1, 100);
            Check.endMonth(y, 200);
            due(100, y.account(0, 0));
            due(200, y.balance(1));
        });
    }

    private static void lots() {
        holds("section 3", "What is left of the credit, if it is greater than 0, becomes a lot of this "
                + "month (or is added to the one that exists already).", () -> {
            SolarLedger x = with(1, 1);
            Check.endMonth(x, 1);
            due(1, x.lot(0, 0));
            Check.endMonth(x, 0);
            due(0, x.lot(0, 1));
            due(1, x.balance(0));
            // A lot that a true-up has made already.
            x.correct(0, 0, 5);
            x.trueUp();
            due(4, x.lot(0, 2));
            Check.endMonth(x, 6);
            due(10, x.lot(0, 2));
        });
    }

    /** Lots of 100, 50 and 30, the latter of the month that ends with the bill. */
    private static SolarLedger paying(int bill) {
        SolarLedger x = with(1, 1);
        Check.endMonth(x, 100);
        Check.endMonth(x, 50);
        if (bill > 0) {
            x.bill(0, bill);
        }
        Check.endMonth(x, 30);
        return x;
    }

    private static void bills() {
        holds("section 3", "The bill of the month is paid from the lots of the subscriber, oldest first, "
                + "as far as they suffice.", () -> {
            int[][] cases = {{0, 100, 50, 30}, {1, 99, 50, 30}, {99, 1, 50, 30}, {100, 0, 50, 30},
                {101, 0, 49, 30}, {150, 0, 0, 30}, {151, 0, 0, 29}, {180, 0, 0, 0}, {181, 0, 0, 0}};
            for (int[] one : cases) {
                SolarLedger x = paying(one[0]);
                due(one[1], x.lot(0, 0));
                due(one[2], x.lot(0, 1));
                due(one[3], x.lot(0, 2));
                due(Math.min(one[0], 180), x.account(0, 4));
            }
        });
    }

    private static void cash() {
        holds("section 3", "What is not paid in this way is due in cash.", () -> {
            due(0, paying(0).account(0, 2));
            due(0, paying(180).account(0, 2));
            due(1, paying(181).account(0, 2));
            SolarLedger x = paying(1180);
            due(1000, x.account(0, 2));
            x.bill(0, 5);
            Check.endMonth(x, 0);
            due(1005, x.account(0, 2));
        });
        holds("section 3", "The next month begins with a bill of 0.", () -> {
            SolarLedger x = paying(500);
            due(0, x.account(0, 1));
            due(1, x.bill(0, 1));
        });
    }

    private static void expiry() {
        holds("section 3", "Lots that are expiry months old (of the month m, at the end of the month m + "
                + "expiry) expire: what is left of them is added to the fund.", () -> {
            for (int expiry : others(1, 2, 24)) {
                SolarLedger x = garden(1, expiry);
                x.join(1, 1, 0);
                Check.endMonth(x, 100);
                for (int month = 1; month < expiry; month++) {
                    Check.endMonth(x, 0);
                }
                due(100, x.lot(0, 0));
                due(0, x.fund());
                x.bill(0, 30);
                Check.endMonth(x, 5);
                due(0, x.lot(0, 0));
                due(70, x.fund());
                due(70, x.account(0, 5));
                due(5, x.balance(0));
            }
            // A lot that the bill has used up leaves nothing for the fund.
            SolarLedger y = garden(1, 1);
            y.join(1, 1, 0);
            Check.endMonth(y, 100);
            y.bill(0, 100);
            Check.endMonth(y, 0);
            due(0, y.fund());
            due(0, y.account(0, 5));
        });
    }
}
