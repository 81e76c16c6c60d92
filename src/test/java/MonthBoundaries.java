/** Promises 18 to 24: days, generation, bills, the present month and share-days. */
final class MonthBoundaries extends Boundaries {
    private static final int MILLIARD = 1_000_000_000;
    private static final int[] NO_MONTH = {-1, 2, 59, 60, LEAST, GREATEST};

    private MonthBoundaries() {
    }

    static void run() {
        passDays();
        hoursOfGeneration();
        wattHours();
        amountsOfBills();
        billsThatAreRefused();
        endMonth();
        month();
        generation();
        shareDays();
        participantsOfShareDays();
    }

    /** 0 is active with 4 of 10 shares, 1 waits, 2 has left; periods 0 and 1 (hours 12 and 13). */
    private static SolarLedger small() {
        SolarLedger x = Check.garden("garden 10 3 50 60;period 1;period 2;hours 12 14 1;");
        x.join(4, 4, 0);
        x.join(7, 7, 0);
        x.join(1, 1, 0);
        x.leave(2);
        return x;
    }

    /** small, 10 days after the beginning of month 1. */
    private static SolarLedger later() {
        SolarLedger x = small();
        x.generate(0, 100);
        x.generate(12, 7);
        x.passDays(30);
        x.endMonth();
        x.generate(0, 5);
        x.passDays(10);
        return x;
    }

    private static SolarLedger atDay(int day) {
        SolarLedger x = small();
        if (day > 0) {
            x.passDays(day);
        }
        return x;
    }

    private static void passDays() {
        holds("promise 18", "`count`: number of days, 1 to 30", () -> {
            due(1, small().passDays(1));
            due(30, small().passDays(30));
            SolarLedger x = small();
            for (int day = 1; day <= 30; day++) {
                due(day, x.passDays(1));
            }
        });
        holds("promise 18", "Throws `IllegalArgumentException` if count is out of range", () ->
            refusedForEach(ARGUMENT, MonthBoundaries::small, others(0, -1, 31, LEAST, GREATEST),
                    (x, count) -> x.passDays(count)));
        holds("promise 18", "Throws `IllegalStateException` if more than 30 days of the month would have "
                + "passed", () -> {
            refused(STATE, () -> atDay(30), x -> x.passDays(1));
            refused(STATE, () -> atDay(1), x -> x.passDays(30));
            refused(STATE, () -> atDay(29), x -> x.passDays(2));
            due(30, atDay(29).passDays(1));
            due(30, atDay(1).passDays(29));
        });
    }

    private static void hoursOfGeneration() {
        holds("promise 19", "`hour`: the hour in which it was generated, 0 to 23", () -> {
            SolarLedger x = small();
            due(3, x.generate(0, 3));
            due(4, x.generate(11, 1));
            due(5, x.generate(12, 5));
            due(7, x.generate(13, 2));
            due(5, x.generate(14, 1));
            due(6, x.generate(23, 1));
        });
        holds("promise 19", "Records generation in the present month.", () -> {
            SolarLedger x = later();
            due(6, x.generate(0, 1));
            due(6, x.generation(1, 0));
            due(100, x.generation(0, 0));
            // A month of which all days have passed is still the present one.
            SolarLedger y = atDay(30);
            due(9, y.generate(0, 9));
            due(9, y.endMonth());
        });
        holds("promise 19", "Throws `IndexOutOfBoundsException` if the hour does not exist", () ->
            refusedForEach(INDEX, MonthBoundaries::small, others(-1, 24, LEAST, GREATEST),
                    (x, hour) -> x.generate(hour, 1)));
    }

    private static SolarLedger generated(int wattHours) {
        SolarLedger x = small();
        x.generate(0, wattHours);
        return x;
    }

    private static void wattHours() {
        holds("promise 19", "`wattHours`: 1 to 1,000,000,000", () -> {
            due(1, small().generate(0, 1));
            due(MILLIARD, small().generate(0, MILLIARD));
        });
        holds("promise 19", "Throws `IllegalArgumentException` if wattHours is out of range", () ->
            refusedForEach(ARGUMENT, MonthBoundaries::small,
                    others(0, -1, MILLIARD + 1, LEAST, GREATEST), (x, wh) -> x.generate(0, wh)));
        holds("promise 19", "Throws `IllegalStateException` if this sum would exceed 1,000,000,000", () -> {
            refused(STATE, () -> generated(MILLIARD), x -> x.generate(23, 1));
            refused(STATE, () -> generated(1), x -> x.generate(0, MILLIARD));
            refused(STATE, () -> generated(MILLIARD), x -> x.generate(0, MILLIARD));
            due(MILLIARD, generated(1).generate(0, MILLIARD - 1));
            // Another period, and another month, have sums of their own.
            SolarLedger x = generated(MILLIARD);
            due(MILLIARD, x.generate(12, MILLIARD));
            x.passDays(30);
            x.endMonth();
            due(MILLIARD, x.generate(0, MILLIARD));
        });
    }

    private static SolarLedger billed(int times) {
        SolarLedger x = small();
        for (int i = 0; i < times; i++) {
            x.bill(0, MILLIARD);
        }
        return x;
    }

    private static void amountsOfBills() {
        holds("promise 20", "`amount`: amount in millicents, 1 to 1,000,000,000", () -> {
            due(1, small().bill(0, 1));
            due(MILLIARD, small().bill(0, MILLIARD));
            due(MILLIARD + 1L, billed(1).bill(0, 1));
        });
        holds("promise 20", "Throws `IndexOutOfBoundsException` if the subscriber does not exist", () ->
            refusedForEach(INDEX, MonthBoundaries::small, others(-1, 3, 16, LEAST, GREATEST),
                    (x, s) -> x.bill(s, 1)));
        holds("promise 20", "Throws `IllegalArgumentException` if amount is out of range", () ->
            refusedForEach(ARGUMENT, MonthBoundaries::small,
                    others(0, -1, MILLIARD + 1, LEAST, GREATEST), (x, amount) -> x.bill(0, amount)));
        holds("promise 20", "Adds an amount to the bill of an active subscriber for the present month.",
                () -> {
            SolarLedger x = small();
            x.bill(0, 5);
            Check.endMonth(x, 0);
            due(3, x.bill(0, 3));
            due(7, x.bill(0, 4));
            due(5, x.account(0, 2));
        });
    }

    private static void billsThatAreRefused() {
        holds("promise 20", "Throws `IllegalStateException` if the subscriber is not active", () -> {
            refused(STATE, MonthBoundaries::small, x -> x.bill(1, 1));
            refused(STATE, MonthBoundaries::small, x -> x.bill(2, 1));
        });
        holds("promise 20", "or the bill would exceed 10,000,000,000", () -> {
            due(10_000_000_000L, billed(9).bill(0, MILLIARD));
            refused(STATE, () -> billed(10), x -> x.bill(0, 1));
            refused(STATE, () -> billed(10), x -> x.bill(0, MILLIARD));
            refused(STATE, () -> {
                SolarLedger x = billed(9);
                x.bill(0, 1);
                return x;
            }, x -> x.bill(0, MILLIARD));
            SolarLedger x = billed(10);
            Check.endMonth(x, 0);
            due(1, x.bill(0, 1));
            due(10_000_000_000L, x.account(0, 2));
        });
    }

    private static SolarLedger lastMonth() {
        SolarLedger x = small();
        for (int month = 0; month < 59; month++) {
            x.passDays(30);
            x.endMonth();
        }
        x.passDays(30);
        return x;
    }

    private static void endMonth() {
        holds("promise 21", "Ends the present month (section 3); the next one begins.", () -> {
            SolarLedger x = atDay(30);
            x.generate(0, 7);
            due(7, x.endMonth());
            due(1, x.month());
            due(0, x.generation(1, 0));
            due(0, x.shareDays(1, 0));
            due(1, x.passDays(1));
        });
        holds("promise 21", "Throws `IllegalStateException` if fewer than 30 days of the month have "
                + "passed", () -> {
            refused(STATE, () -> atDay(0), x -> x.endMonth());
            refused(STATE, () -> atDay(29), x -> x.endMonth());
            refused(STATE, MonthBoundaries::later, x -> x.endMonth());
            due(0, atDay(30).endMonth());
        });
        holds("promise 21", "or it is month 59", () -> {
            due(59, lastMonth().month());
            refused(STATE, MonthBoundaries::lastMonth, x -> x.endMonth());
            SolarLedger x = lastMonth();
            x.undo();
            x.undo();
            due(58, x.month());
            due(0, x.endMonth());
            due(59, x.month());
        });
    }

    private static void month() {
        holds("promise 22", "Returns 0 to 59.", () -> {
            due(0, small().month());
            SolarLedger x = small();
            for (int month = 1; month <= 59; month++) {
                x.passDays(30);
                due(month - 1, x.month());
                x.endMonth();
                due(month, x.month());
            }
        });
        holds("promise 22", "Returns the present month.", () -> due(1, later().month()));
    }

    private static void generation() {
        holds("promise 23", "`month`: a month, 0 to the present one", () -> {
            due(100, later().generation(0, 0));
            due(7, later().generation(0, 1));
            due(5, later().generation(1, 0));
            due(0, later().generation(1, 1));
            due(0, lastMonth().generation(59, 0));
        });
        holds("promise 23", "Throws `IndexOutOfBoundsException` if the month or the period does not "
                + "exist", () -> {
            refusedForEach(INDEX, MonthBoundaries::later, NO_MONTH, (x, m) -> x.generation(m, 0));
            refusedForEach(INDEX, MonthBoundaries::later, others(-1, 2, 3, 4, LEAST, GREATEST),
                    (x, p) -> x.generation(0, p));
            Check.fails("month 60", INDEX, () -> lastMonth().generation(60, 0));
        });
    }

    private static void shareDays() {
        holds("promise 24", "`month`: a month, 0 to the present one", () -> {
            due(120, later().shareDays(0, 0));
            due(40, later().shareDays(1, 0));
            due(120, lastMonth().shareDays(59, 0));
        });
        holds("promise 24", "Returns the share-days; in the present month those of the days that have "
                + "passed (of the operator: the free shares of these days).", () -> {
            due(0, small().shareDays(0, 0));
            due(0, small().shareDays(0, NONE));
            due(4, atDay(1).shareDays(0, 0));
            due(6, atDay(1).shareDays(0, NONE));
            due(120, atDay(30).shareDays(0, 0));
            due(180, atDay(30).shareDays(0, NONE));
            due(180, later().shareDays(0, NONE));
            due(60, later().shareDays(1, NONE));
            SolarLedger x = later();
            x.more(0, 2);
            due(40, x.shareDays(1, 0));
            x.passDays(20);
            due(160, x.shareDays(1, 0));
            due(140, x.shareDays(1, NONE));
            SolarLedger greatest = Check.garden("garden 100000 1 1 100;period 1;");
            greatest.join(100_000, 1, 0);
            greatest.passDays(30);
            due(3_000_000, greatest.shareDays(0, 0));
            due(0, greatest.shareDays(0, NONE));
        });
    }

    private static void participantsOfShareDays() {
        holds("promise 24", "`subscriber`: number of a subscriber, or NONE for the operator", () -> {
            due(120, later().shareDays(0, 0));
            due(0, later().shareDays(0, 1));
            due(0, later().shareDays(0, 2));
            due(180, later().shareDays(0, -1));
        });
        holds("promise 24", "Throws `IndexOutOfBoundsException` if the month or the subscriber does not "
                + "exist", () -> {
            refusedForEach(INDEX, MonthBoundaries::later, NO_MONTH, (x, m) -> x.shareDays(m, 0));
            refusedForEach(INDEX, MonthBoundaries::later, NO_MONTH, (x, m) -> x.shareDays(m, NONE));
            refusedForEach(INDEX, MonthBoundaries::later, others(-2, 3, 16, LEAST, GREATEST),
                    (x, s) -> x.shareDays(0, s));
        });
    }
}
