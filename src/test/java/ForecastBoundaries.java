/** Promises 25 to 31, 35 and 36: what would be. */
final class ForecastBoundaries extends Boundaries {
    private static final int[] NOBODY = {-1, 3, 16, LEAST, GREATEST};
    private static final int[] NO_PARTICIPANT = {-2, 3, 16, LEAST, GREATEST};
    private static final int[] NO_MONTH = {-1, 2, 59, 60, LEAST, GREATEST};

    private ForecastBoundaries() {
    }

    static void run() {
        projectedPart();
        projectedCredit();
        endsOfForecast();
        conditionsOfForecast();
        leastRate();
        rateIsRefused();
        issued();
        shareDayValue();
        leastShares();
        sharesAreRefused();
        expiring();
        monthsCovered();
        monthsCoveredIsRefused();
    }

    /** 0 is active with 4 of 10 shares, 1 waits, 2 has left; periods 0 and 1 (hour 12). */
    private static SolarLedger small() {
        SolarLedger x = Check.garden("garden 10 2 50 100;period 1;period 2;hours 12 13 1;");
        x.join(4, 4, 0);
        x.join(7, 7, 0);
        x.join(1, 1, 0);
        x.leave(2);
        return x;
    }

    /** small in month 1, with a lot of 40, a bill of 30 and 900 generated. */
    private static SolarLedger later() {
        SolarLedger x = small();
        Check.endMonth(x, 100);
        x.generate(0, 700);
        x.generate(12, 100);
        x.bill(0, 30);
        return x;
    }

    /** The only subscriber holds the only share. */
    private static SolarLedger single(int expiry) {
        SolarLedger x = Check.garden("garden 1 " + expiry + " 50 100;period 1;");
        x.join(1, 1, 0);
        return x;
    }

    private static void projectedPart() {
        holds("promise 25", "Computes the part of a subscriber that step 1 would give it at the end of "
                + "the present month, if there were no more generation and no more changes of shares.",
                () -> {
            due(0, small().projectedPart(0));
            for (int day : others(0, 1, 15, 29, 30)) {
                SolarLedger x = later();
                if (day > 0) {
                    x.passDays(day);
                }
                due(360, x.projectedPart(0));
                due(540, x.projectedPart(NONE));
            }
            // Days that have passed count with the shares of those days.
            SolarLedger y = later();
            y.passDays(10);
            y.reduce(0, 3);
            due(900 * (40 + 20) / 300, y.projectedPart(0));
            y.passDays(20);
            y.endMonth();
            due(180 + 40 - 30, y.balance(0));
        });
        holds("promise 25", "`subscriber`: number of a subscriber, or NONE for the operator", () -> {
            SolarLedger x = later();
            x.passDays(15);
            x.leave(0);
            due(180, x.projectedPart(0));
            // 1 got 7 shares when 0 left.
            due(900 * 105 / 300, x.projectedPart(1));
            due(0, x.projectedPart(2));
            due(900 - 180 - 315, x.projectedPart(NONE));
        });
        holds("promise 25", "Throws `IndexOutOfBoundsException` if the subscriber does not exist", () ->
            refusedForEach(INDEX, ForecastBoundaries::later, NO_PARTICIPANT,
                    (x, s) -> x.projectedPart(s)));
    }

    private static void projectedCredit() {
        holds("promise 26", "Computes the credit that step 2 would give an active subscriber at the end "
                + "of the present month, with the parts of projectedPart and the present assignments.",
                () -> {
            SolarLedger x = later();
            x.join(2, 2, 0);
            x.assign(0, 3, 10);
            due(324, x.projectedCredit(0));
            due(180 + 36, x.projectedCredit(3));
            // A debt or a bill takes nothing from it.
            x.bill(3, 1000);
            due(216, x.projectedCredit(3));
            x.assign(0, 3, 100);
            due(0, x.projectedCredit(0));
        });
        holds("promise 26", "Returns the credit; 0 if the subscriber is not active.", () -> {
            SolarLedger x = later();
            x.passDays(15);
            due(0, x.projectedCredit(1));
            due(0, x.projectedCredit(2));
            x.leave(0);
            due(0, x.projectedCredit(0));
        });
        holds("promise 26", "Throws `IndexOutOfBoundsException` if the subscriber does not exist", () ->
            refusedForEach(INDEX, ForecastBoundaries::later, NOBODY, (x, s) -> x.projectedCredit(s)));
    }

    private static void endsOfForecast() {
        holds("promise 27", "`ends`: number of months that end, 1 to 12", () -> {
            SolarLedger x = single(24);
            x.generate(0, 10);
            x.bill(0, 3);
            for (int ends = 1; ends <= 12; ends++) {
                due(7 * ends, x.forecastBalance(0, ends));
            }
        });
        holds("promise 27", "Throws `IndexOutOfBoundsException` if the subscriber does not exist", () ->
            refusedForEach(INDEX, ForecastBoundaries::later, NOBODY, (x, s) -> x.forecastBalance(s, 1)));
        holds("promise 27", "Throws `IllegalArgumentException` if ends is out of range", () ->
            refusedForEach(ARGUMENT, ForecastBoundaries::later, others(0, -1, 13, LEAST, GREATEST),
                    (x, ends) -> x.forecastBalance(0, ends)));
    }

    private static void conditionsOfForecast() {
        holds("promise 27", "Computes the balance of a subscriber after the ends of the present month "
                + "and of further ones, if shares and assignments stay as they are, each of these months "
                + "has the generation that the present one has so far, and each bill is the present one.",
                () -> {
            SolarLedger x = later();
            due(40 + 360 - 30, x.forecastBalance(0, 1));
            due(40 + 2 * (360 - 30), x.forecastBalance(0, 2));
            // The expiry is 2: what three bills left of the lot of month 1 is gone.
            due(2 * 360, x.forecastBalance(0, 3));
            due(2 * 360, x.forecastBalance(0, 12));
            due(0, x.forecastBalance(1, 12));
            due(0, x.forecastBalance(2, 12));
            SolarLedger none = small();
            due(0, none.forecastBalance(0, 12));
            // A present month with fewer share-days than the further ones.
            SolarLedger y = Check.garden("garden 2 24 50 100;period 1;");
            y.passDays(15);
            y.join(1, 1, 0);
            y.join(1, 1, 0);
            y.assign(1, 0, 50);
            y.generate(0, 400);
            due(100 + 50, y.forecastBalance(0, 1));
            due(150 + 11 * 300, y.forecastBalance(0, 12));
            due(50 + 11 * 100, y.forecastBalance(1, 12));
        });
        holds("promise 27", "Corrections do not count; the limit of the months does not matter.", () -> {
            SolarLedger x = single(24);
            Check.endMonth(x, 100);
            x.correct(0, 0, 0);
            due(100, x.forecastBalance(0, 1));
            x.correct(0, 0, 900);
            due(100, x.forecastBalance(0, 12));
            SolarLedger last = single(2);
            for (int month = 0; month < 59; month++) {
                last.passDays(30);
                last.endMonth();
            }
            last.generate(0, 10);
            due(10, last.forecastBalance(0, 1));
            due(20, last.forecastBalance(0, 2));
            due(20, last.forecastBalance(0, 12));
            due(59, last.month());
        });
    }

    private static void leastRate() {
        holds("promise 28", "Finds the least rate of a period, 0 to 200, with which projectedPart would "
                + "be at least an amount; the other rates stay as they are.", () -> {
            SolarLedger x = later();
            // 0 has 4/10 of 700 * rate 0 + 100 * rate 1.
            due(0, x.neededRate(0, 1, 280));
            due(1, x.neededRate(0, 1, 281));
            due(1, x.neededRate(0, 1, 320));
            due(2, x.neededRate(0, 1, 360));
            due(200, x.neededRate(0, 1, 8280));
            due(200, x.neededRate(0, 1, 8241));
            due(199, x.neededRate(0, 1, 8240));
            due(0, x.neededRate(0, 1, 0));
            due(0, x.neededRate(0, 1, -1));
            due(0, x.neededRate(0, 1, Long.MIN_VALUE));
            due(1, x.neededRate(0, 0, 360));
            due(900, x.issued(1));
        });
        holds("promise 28", "the least rate", () -> {
            // By 6, 6 and 2 of 14, 2 gets 2 of 10 (1 6/14, the greatest remainder), but 1 of 11.
            SolarLedger x = Check.garden("garden 14 3 50 100;period 1;");
            x.join(6, 6, 0);
            x.join(6, 6, 0);
            x.join(2, 2, 0);
            x.generate(0, 1);
            due(10, x.neededRate(2, 0, 2));
        });
        holds("promise 28", "`subscriber`: number of a subscriber, or NONE for the operator", () -> {
            due(2, later().neededRate(NONE, 1, 540));
            due(3, later().neededRate(NONE, 1, 541));
            due(0, later().neededRate(1, 1, 0));
            due(0, later().neededRate(2, 1, 0));
        });
    }

    private static void rateIsRefused() {
        holds("promise 28", "Throws `IndexOutOfBoundsException` if the subscriber or the period does not "
                + "exist", () -> {
            refusedForEach(INDEX, ForecastBoundaries::later, NO_PARTICIPANT,
                    (x, s) -> x.neededRate(s, 0, 0));
            refusedForEach(INDEX, ForecastBoundaries::later, others(-1, 2, 3, 4, LEAST, GREATEST),
                    (x, p) -> x.neededRate(0, p, 0));
        });
        holds("promise 28", "Throws `NoSuchElementException` if there is no such rate", () -> {
            due(200, later().neededRate(0, 1, 8280));
            refused(NO_ELEMENT, ForecastBoundaries::later, x -> x.neededRate(0, 1, 8281));
            refused(NO_ELEMENT, ForecastBoundaries::later, x -> x.neededRate(0, 1, Long.MAX_VALUE));
            refused(NO_ELEMENT, ForecastBoundaries::later, x -> x.neededRate(1, 1, 1));
            refused(NO_ELEMENT, ForecastBoundaries::later, x -> x.neededRate(2, 1, 1));
            // A period without generation gives nothing at any rate.
            refused(NO_ELEMENT, ForecastBoundaries::small, x -> x.neededRate(0, 0, 1));
            due(0, small().neededRate(0, 0, 0));
        });
    }

    private static void issued() {
        holds("promise 29", "`month`: a month, 0 to the present one", () -> {
            due(100, later().issued(0));
            due(900, later().issued(1));
            due(0, small().issued(0));
        });
        holds("promise 29", "Throws `IndexOutOfBoundsException` if the month does not exist", () ->
            refusedForEach(INDEX, ForecastBoundaries::later, NO_MONTH, (x, m) -> x.issued(m)));
        holds("promise 29", "Returns the sum over all periods of the generation that counts for a month",
                () -> {
            SolarLedger x = later();
            x.correct(0, 1, 1_000_000_000);
            due(100, x.issued(0));
            x.trueUp();
            due(2_000_000_100L, x.issued(0));
        });
    }

    private static void fraction(long numerator, long denominator, SolarLedger x, int month) {
        due(numerator, x.shareDayValue(month, false));
        due(denominator, x.shareDayValue(month, true));
    }

    private static void shareDayValue() {
        holds("promise 30", "Returns what a share-day of a month is worth: issued(month) / (30 * "
                + "capacity), as a fraction in lowest terms (0 is 0 / 1).", () -> {
            fraction(0, 1, small(), 0);
            fraction(1, 3, later(), 0);
            fraction(3, 1, later(), 1);
            SolarLedger one = small();
            one.generate(0, 1);
            fraction(1, 300, one, 0);
            one.generate(0, 298);
            fraction(299, 300, one, 0);
            one.generate(0, 1);
            fraction(1, 1, one, 0);
            one.generate(0, 1);
            fraction(301, 300, one, 0);
            SolarLedger great = Check.garden("garden 100000 1 1 1;period 199;");
            great.generate(0, 999_999_999);
            fraction(66_333_333_267L, 1_000_000, great, 0);
        });
        holds("promise 30", "`month`: a month, 0 to the present one", () -> {
            fraction(1, 3, later(), 0);
            fraction(3, 1, later(), 1);
        });
        holds("promise 30", "Throws `IndexOutOfBoundsException` if the month does not exist", () -> {
            refusedForEach(INDEX, ForecastBoundaries::later, NO_MONTH,
                    (x, m) -> x.shareDayValue(m, true));
            refusedForEach(INDEX, ForecastBoundaries::later, NO_MONTH,
                    (x, m) -> x.shareDayValue(m, false));
        });
    }

    private static SolarLedger sevenShares(int wattHours) {
        SolarLedger x = Check.garden("garden 7 3 50 1;period 1;");
        if (wattHours > 0) {
            x.generate(0, wattHours);
        }
        return x;
    }

    private static void leastShares() {
        holds("promise 31", "Finds the least number of shares, 1 to the capacity, with which, held for a "
                + "whole month, the part would be at least an amount: V * shares / capacity, rounded "
                + "down, with the V of the present month so far.", () -> {
            // Of 100: 14, 28, 42, 57, 71, 85 and 100.
            int[] parts = {14, 28, 42, 57, 71, 85, 100};
            for (int shares = 1; shares <= 7; shares++) {
                due(shares, sevenShares(100).neededShares(parts[shares - 1]));
                if (shares < 7) {
                    due(shares + 1, sevenShares(100).neededShares(parts[shares - 1] + 1));
                }
            }
            due(7, sevenShares(1).neededShares(1));
            due(1, sevenShares(7).neededShares(1));
            due(4, sevenShares(2).neededShares(1));
            // The month that has ended does not count.
            SolarLedger x = sevenShares(100);
            x.passDays(30);
            x.endMonth();
            due(1, x.neededShares(0));
            Check.fails("a new month", NO_ELEMENT, () -> x.neededShares(1));
            SolarLedger great = Check.garden("garden 100000 3 50 10;period 200;");
            great.generate(0, 1_000_000_000);
            due(99_999, great.neededShares(199_998_000_000L));
            due(100_000, great.neededShares(199_998_000_001L));
            due(100_000, great.neededShares(200_000_000_000L));
        });
        holds("promise 31", "`amount`: amount in millicents, at least 0", () -> {
            due(1, sevenShares(100).neededShares(0));
            due(1, sevenShares(0).neededShares(0));
            due(1, sevenShares(1).neededShares(0));
        });
        holds("promise 31", "Returns the number of shares (the limit does not matter).", () -> {
            due(1, sevenShares(100).setting(5));
            due(7, sevenShares(100).neededShares(100));
        });
    }

    private static void sharesAreRefused() {
        holds("promise 31", "Throws `IllegalArgumentException` if amount is negative", () -> {
            refused(ARGUMENT, () -> sevenShares(100), x -> x.neededShares(-1));
            refused(ARGUMENT, () -> sevenShares(0), x -> x.neededShares(-1));
            refused(ARGUMENT, () -> sevenShares(100), x -> x.neededShares(Long.MIN_VALUE));
        });
        holds("promise 31", "Throws `NoSuchElementException` if there is no such number", () -> {
            refused(NO_ELEMENT, () -> sevenShares(100), x -> x.neededShares(101));
            refused(NO_ELEMENT, () -> sevenShares(0), x -> x.neededShares(1));
            refused(NO_ELEMENT, () -> sevenShares(100), x -> x.neededShares(Long.MAX_VALUE));
            refused(NO_ELEMENT, () -> sevenShares(100), x -> x.neededShares(Long.MAX_VALUE / 7 + 1));
        });
    }

    private static void expiring() {
        holds("promise 35", "Returns the amount of the lots of a subscriber that would expire at the end "
                + "of the present month, after its present bill (without new lots).", () -> {
            SolarLedger x = single(2);
            due(0, x.expiring(0));
            Check.endMonth(x, 100);
            due(0, x.expiring(0));
            Check.endMonth(x, 30);
            x.generate(0, 1000);
            due(100, x.expiring(0));
            x.bill(0, 1);
            due(99, x.expiring(0));
            x.bill(0, 98);
            due(1, x.expiring(0));
            x.bill(0, 1);
            due(0, x.expiring(0));
            x.bill(0, 900);
            due(0, x.expiring(0));
            SolarLedger greatest = single(24);
            Check.endMonth(greatest, 7);
            for (int month = 1; month < 24; month++) {
                due(0, greatest.expiring(0));
                Check.endMonth(greatest, 0);
            }
            due(7, greatest.expiring(0));
            Check.endMonth(greatest, 0);
            due(0, greatest.expiring(0));
            // Who waits or has left has no lots.
            due(0, later().expiring(1));
            due(0, later().expiring(2));
        });
        holds("promise 35", "Throws `IndexOutOfBoundsException` if the subscriber does not exist", () ->
            refusedForEach(INDEX, ForecastBoundaries::later, NOBODY, (x, s) -> x.expiring(s)));
    }

    /** Lots of 100, 30 and 10 of months 0, 1 and 2 in month 2; the expiry is 2. */
    private static SolarLedger lots() {
        SolarLedger x = single(2);
        Check.endMonth(x, 100);
        Check.endMonth(x, 30);
        x.correct(0, 0, 110);
        x.trueUp();
        return x;
    }

    private static void monthsCovered() {
        holds("promise 36", "Computes for how many ends of months, the present one included, the lots of "
                + "a subscriber would pay a constant bill in full, if it got no new ones and lots expired "
                + "as told in section 3.", () -> {
            int[][] cases = {{1, 3}, {10, 3}, {11, 2}, {40, 2}, {41, 1}, {140, 1}, {141, 0}};
            for (int[] one : cases) {
                due(one[1], lots().monthsCovered(0, one[0]));
            }
            due(0, single(2).monthsCovered(0, 1));
            // The present bill and the present generation do not count.
            SolarLedger x = lots();
            x.bill(0, 1000);
            x.generate(0, 1000);
            due(1, x.monthsCovered(0, 140));
            due(0, x.monthsCovered(0, 141));
            // The longest: a lot of the present month, with the greatest expiry.
            SolarLedger y = single(24);
            Check.endMonth(y, 0);
            y.correct(0, 0, 1000);
            y.trueUp();
            due(25, y.monthsCovered(0, 1));
            due(25, y.monthsCovered(0, 40));
            due(24, y.monthsCovered(0, 41));
            // Months behind the last one count as well.
            SolarLedger last = single(24);
            for (int month = 0; month < 58; month++) {
                last.passDays(30);
                last.endMonth();
            }
            Check.endMonth(last, 1000);
            due(24, last.monthsCovered(0, 1));
            due(0, later().monthsCovered(1, 1));
            due(0, later().monthsCovered(2, 1));
        });
    }

    private static void monthsCoveredIsRefused() {
        holds("promise 36", "`amount`: the bill in millicents, at least 1", () -> {
            due(3, lots().monthsCovered(0, 1));
            due(0, lots().monthsCovered(0, Long.MAX_VALUE));
            refused(ARGUMENT, ForecastBoundaries::lots, x -> x.monthsCovered(0, 0));
        });
        holds("promise 36", "Throws `IndexOutOfBoundsException` if the subscriber does not exist", () ->
            refusedForEach(INDEX, ForecastBoundaries::later, NOBODY, (x, s) -> x.monthsCovered(s, 1)));
        holds("promise 36", "Throws `IllegalArgumentException` if amount is less than 1", () -> {
            refused(ARGUMENT, ForecastBoundaries::lots, x -> x.monthsCovered(0, 0));
            refused(ARGUMENT, ForecastBoundaries::lots, x -> x.monthsCovered(0, -1));
            refused(ARGUMENT, ForecastBoundaries::lots, x -> x.monthsCovered(0, Long.MIN_VALUE));
        });
    }
}
