import java.util.NoSuchElementException;

/** Promises 25 to 31, 35 and 36: what would be. */
public final class ForecastsTest {
    private static final Class<NoSuchElementException> NO_ELEMENT = NoSuchElementException.class;

    private ForecastsTest() {
    }

    public static void main(String[] args) {
        projectedPart();
        projectedCredit();
        forecastBalance();
        forecastWithExpiryAndDebt();
        neededRate();
        neededRateIsNoSearchByHalves();
        issuedAndShareDayValue();
        neededShares();
        expiring();
        monthsCovered();
        monthsCoveredBehindTheLast();
        nothingIsChanged();
        Check.finish();
    }

    private static void projectedPart() {
        SolarLedger x = Check.garden("garden 10 3 50 60;period 2;period 3;hours 5 6 1;");
        x.join(2, 2, 0);
        x.join(3, 3, 0);
        x.generate(0, 300);
        x.generate(5, 100);
        Check.due("0", 180, x.projectedPart(0));
        Check.due("1", 270, x.projectedPart(1));
        Check.due("the operator", 450, x.projectedPart(-1));
        x.passDays(10);
        x.leave(1);
        x.more(0, 1);
        Check.due("0 with more shares", (20 + 60) * 900 / 300, x.projectedPart(0));
        Check.due("who left", 30 * 900 / 300, x.projectedPart(1));
        Check.due("the operator, then", 900 - 240 - 90, x.projectedPart(-1));
        Check.fails("nobody", Check.INDEX, () -> x.projectedPart(2));
        Check.fails("-2", Check.INDEX, () -> x.projectedPart(-2));
        x.passDays(20);
        x.endMonth();
        Check.due("as projected", 240, x.balance(0));
        Check.due("the fund", 90, x.fund());
        Check.due("a new month", 0, x.projectedPart(0));
    }

    private static void projectedCredit() {
        SolarLedger x = Check.garden("garden 10 3 50 60;period 1;");
        x.join(3, 3, 0);
        x.join(3, 3, 0);
        x.join(3, 3, 0);
        x.join(3, 3, 0);
        x.assign(1, 0, 50);
        x.assign(0, 2, 10);
        x.generate(0, 1010);
        Check.due("1", 303 - 151, x.projectedCredit(1));
        Check.due("0", 454 - 45, x.projectedCredit(0));
        Check.due("2", 303 + 45, x.projectedCredit(2));
        Check.due("one who waits", 0, x.projectedCredit(3));
        Check.fails("the operator", Check.INDEX, () -> x.projectedCredit(-1));
        Check.fails("nobody", Check.INDEX, () -> x.projectedCredit(4));
        x.passDays(1);
        x.leave(1);
        Check.due("who left", 0, x.projectedCredit(1));
    }

    private static void forecastBalance() {
        SolarLedger x = Check.garden("garden 10 12 50 60;period 1;");
        x.join(2, 2, 0);
        x.passDays(15);
        x.more(0, 2);
        x.join(3, 3, 0);
        x.join(9, 9, 0);
        x.assign(1, 0, 50);
        x.generate(0, 1000);
        x.bill(0, 100);
        // This month 0 has 90 of 300 share-days and 1 has 45, later 120 and 90.
        long first = 300 + 75 - 100;
        long later = 400 + 150 - 100;
        Check.due("one end", first, x.forecastBalance(0, 1));
        Check.due("two ends", first + later, x.forecastBalance(0, 2));
        Check.due("twelve ends", first + 11 * later, x.forecastBalance(0, 12));
        Check.due("one who waits", 0, x.forecastBalance(2, 12));
        Check.fails("0 ends", Check.ARGUMENT, () -> x.forecastBalance(0, 0));
        Check.fails("13 ends", Check.ARGUMENT, () -> x.forecastBalance(0, 13));
        Check.fails("nobody", Check.INDEX, () -> x.forecastBalance(3, 0));
        x.leave(0);
        Check.due("who left", 0, x.forecastBalance(0, 5));
    }

    private static void forecastWithExpiryAndDebt() {
        SolarLedger x = Check.garden("garden 1 2 50 100;period 1;");
        x.join(1, 1, 0);
        Check.endMonth(x, 500);
        x.correct(0, 0, 0);
        x.trueUp();
        Check.due("lots are gone", 0, x.balance(0));
        x.bill(0, 30);
        Check.endMonth(x, 20);
        x.correct(1, 0, 0);
        x.trueUp();
        x.correct(0, 0, 900);
        Check.due("debt", 20, x.account(0, 0));
        x.generate(0, 100);
        x.bill(0, 10);
        Check.due("debt first", 70, x.forecastBalance(0, 1));
        Check.due("further", 160, x.forecastBalance(0, 2));
        // At the third end the first lot (80 at first) pays 10 for the third time, then expires.
        Check.due("expiry", 200, x.forecastBalance(0, 3));
        Check.due("always", 200, x.forecastBalance(0, 4));
    }

    private static void neededRate() {
        SolarLedger x = Check.garden("garden 10 3 50 60;period 2;period 3;hours 5 6 1;");
        x.join(5, 5, 0);
        x.generate(0, 1000);
        x.generate(5, 100);
        Check.due("the present rate", 3, x.neededRate(0, 1, 1150));
        Check.due("a little more", 4, x.neededRate(0, 1, 1151));
        Check.due("less", 0, x.neededRate(0, 1, 1000));
        Check.due("negative", 0, x.neededRate(0, 1, Long.MIN_VALUE));
        Check.due("the greatest rate", 200, x.neededRate(0, 1, 11000));
        Check.due("the operator", 200, x.neededRate(-1, 1, 11000));
        Check.fails("beyond", NO_ELEMENT, () -> x.neededRate(0, 1, 11001));
        Check.fails("far beyond", NO_ELEMENT, () -> x.neededRate(0, 1, Long.MAX_VALUE));
        Check.fails("period 2", Check.INDEX, () -> x.neededRate(0, 2, 1));
        Check.fails("period -1", Check.INDEX, () -> x.neededRate(0, -1, 1));
        Check.fails("nobody", Check.INDEX, () -> x.neededRate(1, 0, 1));
        Check.fails("-2", Check.INDEX, () -> x.neededRate(-2, 0, 1));
        Check.due("the other period", 2, x.neededRate(0, 0, 1150));
        Check.due("the rate stays", 2300, x.issued(0));
    }

    private static void neededRateIsNoSearchByHalves() {
        SolarLedger x = Check.garden("garden 14 3 50 100;period 1;");
        x.join(6, 6, 0);
        x.join(6, 6, 0);
        x.join(2, 2, 0);
        x.generate(0, 1);
        // Subscriber 2 has 2/14: of 10 it gets 2 (1 6/14 with the greatest remainder), of 11 only 1.
        Check.due("the least rate", 10, x.neededRate(2, 0, 2));
        SolarLedger y = Check.garden("garden 14 3 50 100;period 11;");
        y.join(6, 6, 0);
        y.join(6, 6, 0);
        y.join(2, 2, 0);
        y.generate(0, 1);
        Check.due("a greater rate gives less", 1, y.projectedPart(2));
    }

    private static void issuedAndShareDayValue() {
        SolarLedger x = Check.garden("garden 4 3 50 60;period 20;period 30;hours 5 6 1;");
        Check.due("nothing yet", 0, x.issued(0));
        Check.due("numerator of 0", 0, x.shareDayValue(0, false));
        Check.due("denominator of 0", 1, x.shareDayValue(0, true));
        x.generate(0, 3);
        x.generate(5, 1);
        Check.due("issued", 90, x.issued(0));
        Check.due("numerator", 3, x.shareDayValue(0, false));
        Check.due("denominator", 4, x.shareDayValue(0, true));
        x.passDays(30);
        x.endMonth();
        x.generate(0, 24);
        Check.due("past", 90, x.issued(0));
        Check.due("present", 480, x.issued(1));
        Check.due("whole numerator", 4, x.shareDayValue(1, false));
        Check.due("whole denominator", 1, x.shareDayValue(1, true));
        x.correct(0, 0, 0);
        Check.due("before the true-up", 90, x.issued(0));
        x.trueUp();
        Check.due("after the true-up", 30, x.issued(0));
        Check.fails("issued in month 2", Check.INDEX, () -> x.issued(2));
        Check.fails("issued in month -1", Check.INDEX, () -> x.issued(-1));
        Check.fails("value in month 2", Check.INDEX, () -> x.shareDayValue(2, true));
        Check.fails("value in month -1", Check.INDEX, () -> x.shareDayValue(-1, false));
    }

    private static void neededShares() {
        SolarLedger x = Check.garden("garden 7 3 50 10;period 1;");
        Check.due("nothing for nothing", 1, x.neededShares(0));
        Check.fails("something for nothing", NO_ELEMENT, () -> x.neededShares(1));
        x.generate(0, 100);
        Check.due("100/7", 1, x.neededShares(14));
        Check.due("more than 100/7", 2, x.neededShares(15));
        Check.due("200/7", 2, x.neededShares(28));
        Check.due("more than 200/7", 3, x.neededShares(29));
        Check.due("3 would give 42", 4, x.neededShares(43));
        Check.due("all, whatever the limit", 7, x.neededShares(100));
        Check.fails("more than all", NO_ELEMENT, () -> x.neededShares(101));
        Check.fails("far more", NO_ELEMENT, () -> x.neededShares(Long.MAX_VALUE));
        Check.fails("negative", Check.ARGUMENT, () -> x.neededShares(-1));
        SolarLedger z = Check.garden("garden 7 3 50 10;period 1;");
        z.generate(0, 1);
        Check.due("one millicent", 7, z.neededShares(1));
        Check.due("nothing of one", 1, z.neededShares(0));
        SolarLedger y = Check.garden("garden 100000 3 50 10;period 200;");
        y.generate(0, 1_000_000_000);
        Check.due("great numbers", 99_999, y.neededShares(199_998_000_000L));
        Check.due("great numbers, one more", 100_000, y.neededShares(199_998_000_001L));
    }

    private static void expiring() {
        SolarLedger x = Check.garden("garden 1 2 50 100;period 1;");
        x.join(1, 1, 0);
        Check.due("no lots", 0, x.expiring(0));
        Check.endMonth(x, 100);
        Check.endMonth(x, 30);
        x.generate(0, 7);
        Check.due("month 0", 100, x.expiring(0));
        x.bill(0, 60);
        Check.due("after the bill", 40, x.expiring(0));
        x.bill(0, 60);
        Check.due("after a great bill", 0, x.expiring(0));
        Check.due("nothing is changed", 130, x.balance(0));
        Check.fails("nobody", Check.INDEX, () -> x.expiring(1));
        Check.fails("-1", Check.INDEX, () -> x.expiring(-1));
    }

    private static void monthsCovered() {
        SolarLedger x = Check.garden("garden 1 2 50 100;period 1;");
        x.join(1, 1, 0);
        Check.due("no lots", 0, x.monthsCovered(0, 1));
        Check.endMonth(x, 100);
        Check.endMonth(x, 30);
        x.correct(0, 0, 110);
        x.trueUp();
        x.bill(0, 1000);
        // Lots of 100, 30 and 10 expire at this end and the two next ones.
        Check.due("1", 3, x.monthsCovered(0, 1));
        Check.due("10", 3, x.monthsCovered(0, 10));
        Check.due("11", 2, x.monthsCovered(0, 11));
        Check.due("40", 2, x.monthsCovered(0, 40));
        Check.due("41", 1, x.monthsCovered(0, 41));
        Check.due("140", 1, x.monthsCovered(0, 140));
        Check.due("141", 0, x.monthsCovered(0, 141));
        Check.due("the greatest long", 0, x.monthsCovered(0, Long.MAX_VALUE));
        SolarLedger y = Check.garden("garden 1 24 50 100;period 1;");
        y.join(1, 1, 0);
        Check.endMonth(y, 100);
        Check.due("paid lots are gone", 2, y.monthsCovered(0, 40));
        Check.due("to the last", 4, y.monthsCovered(0, 25));
        Check.due("until it expires", 24, y.monthsCovered(0, 1));
        Check.fails("0", Check.ARGUMENT, () -> x.monthsCovered(0, 0));
        Check.fails("negative", Check.ARGUMENT, () -> x.monthsCovered(0, Long.MIN_VALUE));
        Check.fails("nobody", Check.INDEX, () -> x.monthsCovered(1, 0));
    }

    private static void monthsCoveredBehindTheLast() {
        SolarLedger x = Check.garden("garden 1 24 50 100;period 1;");
        x.join(1, 1, 0);
        for (int month = 0; month < 58; month++) {
            Check.endMonth(x, 0);
        }
        Check.endMonth(x, 100);
        Check.due("the last month", 59, x.month());
        Check.due("four ends", 4, x.monthsCovered(0, 25));
        Check.due("until it expires", 24, x.monthsCovered(0, 1));
    }

    private static void nothingIsChanged() {
        SolarLedger x = Check.garden("garden 1 2 50 100;period 1;");
        x.join(1, 1, 0);
        Check.endMonth(x, 100);
        x.bill(0, 20);
        x.generate(0, 50);
        x.forecastBalance(0, 12);
        x.monthsCovered(0, 30);
        x.expiring(0);
        x.projectedCredit(0);
        x.neededRate(0, 0, 1);
        Check.due("balance", 100, x.balance(0));
        Check.due("bill", 20, x.account(0, 1));
        Check.due("paid", 0, x.account(0, 4));
        Check.due("month", 1, x.month());
        x.passDays(30);
        Check.due("divided", 50, x.endMonth());
        Check.due("balance at the end", 130, x.balance(0));
    }
}
