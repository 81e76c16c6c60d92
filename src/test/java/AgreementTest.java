import java.util.ArrayList;
import java.util.List;
import java.util.NoSuchElementException;
import java.util.Random;

/**
 * What the promises say of one another, in random runs with fixed seeds: a forecast against what
 * then happens, money in against money out, undo against a ledger that never made what was undone.
 * Unlike the model, this test computes no formula of the document a second time, so that a wrong
 * reading that the class and the model share does not pass here for this reason.
 */
public final class AgreementTest {
    private static final int RUNS = 500;
    /** So few that no ledger sees more than the document's 512 calls. */
    private static final int ATTEMPTS = 100;
    private static final int DEBT = 0;
    private static final int BILL = 1;
    private static final int CASH = 2;
    private static final int PAID_OUT = 3;
    private static final int PAID_BY_LOTS = 4;
    private static final int EXPIRED = 5;

    private interface Change {
        void on(SolarLedger x);
    }

    private final Random random;
    private final String name;
    private final int[] settings = new int[4];
    private final int[] rates;
    private final SolarLedger x;
    /** The changes of x that have not been undone, without its load. */
    private final List<Change> made = new ArrayList<>();
    private int undoable = 1;
    /** How many of the changes stood when a month began. */
    private int atBeginOfMonth = 0;

    private AgreementTest(int seed) {
        random = new Random(seed);
        name = "run " + seed + ": ";
        int[] capacities = {1, 7, 30, 100, 997, 100_000};
        settings[0] = capacities[pick(capacities.length)];
        settings[1] = 1 + pick(5);
        settings[2] = pick(101);
        settings[3] = 20 + pick(81);
        rates = new int[1 + pick(4)];
        for (int i = 0; i < rates.length; i++) {
            rates[i] = pick(201);
        }
        x = begin(rates);
    }

    public static void main(String[] args) {
        for (int seed = 0; seed < RUNS; seed++) {
            new AgreementTest(seed).run();
        }
        Check.finish();
    }

    private int pick(int bound) {
        return random.nextInt(bound);
    }

    private void run() {
        for (int i = 1; i <= ATTEMPTS; i++) {
            step();
            if (i % 25 == 0) {
                sums();
                projections();
                forecasts();
                thereAndBack();
                covered();
                exits();
                descriptions();
            }
        }
        neededRate();
        same("undo", Look.books(again(made.size())), Look.books(x));
    }

    private void due(String what, long want, long got) {
        Check.due(name + what, want, got);
    }

    private void same(String what, String want, String got) {
        Check.due(name + what, want, got);
    }

    // ---- ledgers

    /** A ledger whose hour p belongs to its period p. */
    private SolarLedger begin(int[] withRates) {
        StringBuilder text = new StringBuilder("garden");
        for (int setting : settings) {
            text.append(' ').append(setting);
        }
        text.append(';');
        for (int rate : withRates) {
            text.append("period ").append(rate).append(';');
        }
        for (int p = 1; p < withRates.length; p++) {
            text.append("hours ").append(p).append(' ').append(p + 1).append(' ').append(p);
            text.append(';');
        }
        return Check.garden(text.toString());
    }

    /** A new ledger on which the first changes have been made once more. */
    private SolarLedger again(int changes) {
        SolarLedger y = begin(rates);
        for (Change change : made.subList(0, changes)) {
            change.on(y);
        }
        return y;
    }

    /** With other rates the fund may be empty where it was shared: that changes no share-days. */
    private SolarLedger againWith(int period, int rate) {
        int[] other = rates.clone();
        other[period] = rate;
        SolarLedger y = begin(other);
        for (Change change : made) {
            attempted(change, y);
        }
        return y;
    }

    private static boolean attempted(Change change, SolarLedger y) {
        try {
            change.on(y);
            return true;
        } catch (IllegalArgumentException | IllegalStateException | IndexOutOfBoundsException e) {
            return false;
        }
    }

    private boolean attempt(Change change) {
        boolean succeeded = attempted(change, x);
        if (succeeded) {
            made.add(change);
            undoable = Math.min(6, undoable + 1);
        }
        return succeeded;
    }

    private void undo() {
        if (undoable > 0 && !made.isEmpty()) {
            undoable--;
            due("can still be undone", undoable, x.undo());
            made.remove(made.size() - 1);
            atBeginOfMonth = atBeginOfMonth > made.size() ? 0 : atBeginOfMonth;
        }
    }

    // ---- changes

    private void step() {
        int a = pick(6);
        int b = pick(6);
        int some = 1 + pick(1 + settings[0] / 4);
        int kind = pick(100);
        if (kind < 8 && x.subscriberCount() < 6) {
            int wanted = 1 + pick(1 + settings[0] / 2);
            int least = 1 + pick(wanted);
            int priority = pick(10);
            attempt(y -> y.join(wanted, least, priority));
        } else if (kind < 20) {
            int way = pick(3);
            attempt(y -> move(y, way, a, b, some));
        } else if (kind < 28) {
            int percent = pick(101);
            attempt(y -> y.assign(a, b, percent));
        } else if (kind < 29) {
            attempt(y -> y.leave(a));
        } else if (kind < 45) {
            int hour = pick(4);
            int wattHours = 1 + pick(pick(4) == 0 ? 100_000_000 : 5000);
            attempt(y -> y.generate(hour, wattHours));
        } else if (kind < 57) {
            int amount = 1 + pick(pick(4) == 0 ? 100_000_000 : 50_000);
            attempt(y -> y.bill(a, amount));
        } else if (kind < 80) {
            passTime();
        } else if (kind < 94) {
            settle(a);
        } else {
            undo();
        }
    }

    private static void move(SolarLedger y, int way, int a, int b, int count) {
        if (way == 0) {
            y.more(a, count);
        } else if (way == 1) {
            y.reduce(a, count);
        } else {
            y.transfer(a, b, count);
        }
    }

    private void passTime() {
        int days = 1 + pick(30);
        attempt(y -> y.passDays(days));
        if (pick(2) == 0) {
            int rest = daysLeft();
            attempt(y -> y.passDays(rest));
            if (attempt(y -> y.endMonth())) {
                atBeginOfMonth = made.size();
            }
        }
    }

    private void settle(int back) {
        int kind = pick(4);
        if (kind == 0) {
            attempt(y -> y.trueUp());
        } else if (kind == 1) {
            attempt(y -> y.shareFund());
        } else {
            int month = x.month() - 1 - back;
            int period = pick(rates.length);
            int wattHours = pick(3) == 0 ? 0 : pick(pick(4) == 0 ? 100_000_000 : 5000);
            attempt(y -> y.correct(month, period, wattHours));
        }
    }

    // ---- what must agree

    private int daysLeft() {
        SolarLedger y = again(made.size());
        return 30 - allShareDays(y, y.month()) / settings[0];
    }

    private static int allShareDays(SolarLedger y, int month) {
        return (int) (y.shareDays(month, SolarLedger.NONE) + sum(y, s -> y.shareDays(month, s)));
    }

    private interface Answer {
        long of(int subscriber);
    }

    private static long sum(SolarLedger y, Answer answer) {
        long sum = 0;
        int count = y.subscriberCount();
        for (int s = 0; s < count; s++) {
            sum += answer.of(s);
        }
        return sum;
    }

    /** Shares, share-days and money are nowhere lost, and none comes from nowhere. */
    private void sums() {
        SolarLedger y = again(made.size());
        due("all shares", settings[0], y.freeShares() + sum(y, s -> y.shares(s)));
        long issued = 0;
        for (int month = 0; month < y.month(); month++) {
            due("all share-days", 30L * settings[0], allShareDays(y, month));
            issued += y.issued(month);
        }
        due("all money", issued, y.fund() + y.operatorAccount() + sum(y, s -> y.balance(s)
                - y.account(s, DEBT) + y.account(s, PAID_OUT) + y.account(s, PAID_BY_LOTS)));
        due("all parts", y.issued(y.month()),
                y.projectedPart(SolarLedger.NONE) + sum(y, s -> y.projectedPart(s)));
        due("all places", 0, sum(y, s -> Math.max(0, y.waitingPlace(s))) - placesOfWaiting(y));
        for (int s = 0; s < y.subscriberCount(); s++) {
            due("active means shares", y.state(s) == 1 ? 1 : 0, Math.min(1, y.shares(s)));
            due("lots or debt", 0, Math.min(y.balance(s), y.account(s, DEBT)));
            due("within the limit", 0, Math.max(0, y.shares(s) - y.setting(5)));
        }
    }

    private static long placesOfWaiting(SolarLedger y) {
        long waiting = sum(y, s -> y.state(s) == 0 ? 1 : 0);
        return waiting * (waiting - 1) / 2;
    }

    /** The end of the month gives what was projected, and what was said to expire expires. */
    private void projections() {
        SolarLedger before = again(made.size());
        if (before.month() > 58) {
            return;
        }
        SolarLedger after = again(made.size());
        int count = before.subscriberCount();
        due("divided", before.issued(before.month()), end(after, daysLeft()));
        due("the operator's part", before.projectedPart(SolarLedger.NONE),
                after.operatorAccount() - before.operatorAccount());
        long toFund = 0;
        for (int s = 0; s < count; s++) {
            toFund += before.state(s) == 2 ? before.projectedPart(s) : before.expiring(s);
            due("expiring", before.expiring(s), grown(before, after, s, EXPIRED));
            due("the bill", before.account(s, BILL), grown(before, after, s, CASH)
                    + grown(before, after, s, PAID_BY_LOTS));
            due("the credit of " + s, before.projectedCredit(s), after.balance(s)
                    - before.balance(s) - grown(before, after, s, DEBT)
                    + grown(before, after, s, PAID_BY_LOTS) + grown(before, after, s, EXPIRED));
        }
        due("to the fund", toFund, after.fund() - before.fund());
    }

    private static long grown(SolarLedger before, SolarLedger after, int s, int what) {
        return after.account(s, what) - before.account(s, what);
    }

    private static long end(SolarLedger y, int daysLeft) {
        if (daysLeft > 0) {
            y.passDays(daysLeft);
        }
        return y.endMonth();
    }

    /** Months that really end in the way that the forecast supposes. */
    private void forecasts() {
        SolarLedger before = again(made.size());
        SolarLedger real = again(made.size());
        int count = before.subscriberCount();
        int present = before.month();
        for (int ends = 1; ends <= Math.min(7, 59 - present); ends++) {
            end(real, ends == 1 ? daysLeft() : 30);
            for (int s = 0; s < count; s++) {
                due("forecast of " + s + " for " + ends, before.forecastBalance(s, ends),
                        real.balance(s));
                billAgain(real, s, before.account(s, BILL));
            }
            for (int p = 0; p < rates.length; p++) {
                int wattHours = before.generation(present, p);
                if (wattHours > 0) {
                    real.generate(hourOf(real, p), wattHours);
                }
            }
        }
    }

    private static int hourOf(SolarLedger y, int period) {
        return y.periodOf(period) == period ? period : 23;
    }

    private static void billAgain(SolarLedger y, int s, long amount) {
        for (long left = amount; left > 0; left -= 1_000_000_000) {
            y.bill(s, (int) Math.min(left, 1_000_000_000));
        }
    }

    /** A correction that is taken back leaves everybody with the same money. */
    private void thereAndBack() {
        SolarLedger y = again(made.size());
        if (y.month() == 0) {
            return;
        }
        y.trueUp();
        int month = pick(y.month());
        int period = pick(rates.length);
        int counted = y.generation(month, period);
        String before = money(y);
        due("counted", counted, y.correct(month, period, pick(2) == 0 ? 0 : pick(100_000)));
        long issued = y.issued(month);
        long there = y.trueUp();
        due("there", y.issued(month) - issued, there);
        y.correct(month, period, counted);
        due("and back", -there, y.trueUp());
        due("issued again", issued, y.issued(month));
        same("money again", before, money(y));
    }

    private static String money(SolarLedger y) {
        StringBuilder text = new StringBuilder();
        text.append(y.fund()).append(' ').append(y.operatorAccount());
        for (int s = 0; s < y.subscriberCount(); s++) {
            text.append(' ').append(y.balance(s)).append(' ').append(y.account(s, DEBT));
        }
        return text.toString();
    }

    /** Really pays a bill again and again, from the begin of a month without generation. */
    private void covered() {
        SolarLedger before = again(atBeginOfMonth);
        for (int s = 0; s < before.subscriberCount(); s++) {
            long amount = 1 + before.balance(s) / (1 + pick(6)) - pick(2);
            if (before.state(s) != 1 || amount < 1 || amount > 10_000_000_000L) {
                continue;
            }
            int said = before.monthsCovered(s, amount);
            if (before.month() + said > 58) {
                continue;
            }
            SolarLedger real = again(atBeginOfMonth);
            for (int ends = 0; ends <= said; ends++) {
                long cash = real.account(s, CASH);
                billAgain(real, s, amount);
                end(real, 30);
                due("in full " + ends + " of " + said, ends < said ? 1 : 0,
                        real.account(s, CASH) == cash ? 1 : 0);
            }
        }
    }

    /** What one who leaves had is paid out or goes to the fund, and its bill is due in cash. */
    private void exits() {
        SolarLedger before = again(made.size());
        for (int s = 0; s < before.subscriberCount(); s++) {
            if (before.state(s) == 2) {
                continue;
            }
            SolarLedger after = again(made.size());
            long paidOut = after.leave(s);
            due("paid out", paidOut, after.account(s, PAID_OUT));
            due("what it had", before.balance(s) - before.account(s, DEBT),
                    paidOut + after.fund() - before.fund());
            due("its bill", before.account(s, BILL), grown(before, after, s, CASH));
            due("its share-days", before.shareDays(before.month(), s),
                    after.shareDays(after.month(), s));
            due("nothing is left", 0, after.balance(s) + after.shares(s));
            due("all shares then", settings[0],
                    after.freeShares() + sum(after, other -> after.shares(other)));
        }
    }

    private void descriptions() {
        SolarLedger y = again(made.size());
        for (int s = 0; s < y.subscriberCount(); s++) {
            String[] words = Check.description(y, s).split(" ");
            String state = new String[] {"waiting", "active", "left"}[y.state(s)];
            same("word", s + ":" + state, words[0]);
            if (y.state(s) == 0) {
                same("place", Integer.toString(y.waitingPlace(s)), words[1]);
            } else {
                long money = y.state(s) == 1 ? y.balance(s) : y.account(s, PAID_OUT);
                String last = words[y.state(s) == 1 ? 2 : 1];
                due("decimal places", 3, last.length() - 1 - last.indexOf('.'));
                due("money", money, Long.parseLong(last.replace(".", "")));
            }
        }
    }

    /** Gardens that really have the rates in question. */
    private void neededRate() {
        SolarLedger y = again(made.size());
        int participant = pick(y.subscriberCount() + 1) - 1;
        int period = pick(rates.length);
        int aim = pick(12);
        long amount = againWith(period, aim).projectedPart(participant) + pick(2);
        int said = SolarLedger.NONE;
        try {
            said = y.neededRate(participant, period, amount);
        } catch (NoSuchElementException e) {
            aim = 200;
        }
        for (int rate = 0; rate <= (said < 0 ? aim : said); rate++) {
            boolean enough = againWith(period, rate).projectedPart(participant) >= amount;
            due("with the rate " + rate, rate == said ? 1 : 0, enough ? 1 : 0);
        }
    }
}
