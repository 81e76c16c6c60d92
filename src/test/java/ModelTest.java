import java.nio.charset.StandardCharsets;
import java.util.ArrayList;
import java.util.List;
import java.util.Random;

/**
 * All promises: random runs of at most 512 calls, answered by a SolarLedger and by the model. The
 * seeds are fixed, so that each run of this test makes the same calls.
 */
public final class ModelTest {
    private static final int RUNS = 1500;
    private static final int CALLS = 512;

    private final Random random;
    private final SolarLedger x = new SolarLedger();
    private final Model m = new Model();
    private final List<String> log = new ArrayList<>();
    private final boolean wild;
    private final int pace;
    private boolean wrong = false;

    private ModelTest(int seed) {
        random = new Random(seed);
        wild = seed % 3 == 0;
        pace = 1 + seed % 5;
    }

    public static void main(String[] args) {
        int failed = 0;
        for (int seed = 0; seed < RUNS && failed < 5; seed++) {
            ModelTest test = new ModelTest(seed);
            test.run();
            if (test.wrong) {
                failed++;
                Check.fail("run " + seed + ": " + test.log);
            }
        }
        Check.finish();
    }

    private void run() {
        if (random.nextInt(8) > 0) {
            loadText(garden());
        }
        while (log.size() < CALLS - 60 && !wrong) {
            step();
        }
        lookAtAll();
    }

    private static String answer(Check.Call call) {
        try {
            return Long.toString(call.answer());
        } catch (RuntimeException e) {
            return e.getClass().getName();
        }
    }

    private void same(String name, Check.Call call, Check.Call modelCall) {
        if (wrong) {
            return;
        }
        String got = answer(call);
        String due = answer(modelCall);
        log.add(name + " = " + got);
        if (!got.equals(due)) {
            wrong = true;
            log.add("DUE IS " + due);
        }
    }

    private int pick(int bound) {
        return random.nextInt(bound);
    }

    /** Mostly a number from the range, sometimes one at its edges or beyond. */
    private int number(int least, int greatest) {
        switch (pick(wild ? 12 : 60)) {
            case 0:
                return least - 1;
            case 1:
                return greatest == Integer.MAX_VALUE ? greatest : greatest + 1;
            case 2:
                return least;
            case 3:
                return greatest;
            case 4:
                return pick(2) == 0 ? Integer.MIN_VALUE : Integer.MAX_VALUE;
            default:
                return (int) (least + (long) (random.nextDouble() * ((long) greatest - least + 1)));
        }
    }

    private int subscriber() {
        return number(0, Math.max(0, m.subscriberCount() - 1));
    }

    private int active() {
        for (int i = 0; i < 6; i++) {
            int s = pick(Math.max(1, m.subscriberCount()));
            if (m.subscriberCount() > s && m.state(s) == 1) {
                return s;
            }
        }
        return subscriber();
    }

    private int participant() {
        return pick(5) == 0 ? -1 : subscriber();
    }

    private int period() {
        return number(0, m.setting(4) - 1);
    }

    private int anyMonth() {
        return pick(4) == 0 ? number(0, m.month()) : Math.max(0, m.month() - pick(4));
    }

    private int wattHours() {
        return pick(3) == 0 ? number(1, 1_000_000_000) : number(1, 1 + pick(100_000));
    }

    private long amount() {
        switch (pick(8)) {
            case 0:
                return random.nextLong();
            case 1:
                return pick(3) - 1;
            default:
                return (long) (random.nextDouble() * 2 * Math.max(10, m.issued(m.month())));
        }
    }

    private void step() {
        int kind = pick(100);
        if (kind < 6) {
            join();
        } else if (kind < 16) {
            moveShares();
        } else if (kind < 21) {
            assign();
        } else if (kind < 22) {
            int s = active();
            same("leave(" + s + ")", () -> x.leave(s), () -> m.leave(s));
        } else if (kind < 40) {
            passTime();
        } else if (kind < 52) {
            useEnergy();
        } else if (kind < 60) {
            trueUp();
        } else if (kind < 63) {
            same("undo()", () -> x.undo(), () -> m.undo());
        } else if (kind < 64) {
            setup();
        } else if (kind < 74) {
            forecast();
        } else {
            look();
        }
    }

    private void join() {
        int capacity = m.setting(0);
        int wanted = number(1, Math.max(1, capacity / (1 + pick(8))));
        int minimum = number(1, Math.max(1, Math.min(wanted, capacity) / (1 + pick(5))));
        int priority = number(0, 9);
        same("join(" + wanted + ", " + minimum + ", " + priority + ")",
                () -> x.join(wanted, minimum, priority), () -> m.join(wanted, minimum, priority));
    }

    private void moveShares() {
        int a = active();
        int b = active();
        int count = pick(6) == 0 ? number(1, Integer.MAX_VALUE)
                : number(1, 1 + m.setting(0) / (2 + pick(20)));
        switch (pick(3)) {
            case 0:
                same("more(" + a + ", " + count + ")", () -> x.more(a, count),
                        () -> m.more(a, count));
                break;
            case 1:
                same("reduce(" + a + ", " + count + ")", () -> x.reduce(a, count),
                        () -> m.reduce(a, count));
                break;
            default:
                same("transfer(" + a + ", " + b + ", " + count + ")",
                        () -> x.transfer(a, b, count), () -> m.transfer(a, b, count));
        }
    }

    private void assign() {
        int a = active();
        int b = active();
        int percent = number(0, 100);
        same("assign(" + a + ", " + b + ", " + percent + ")", () -> {
            x.assign(a, b, percent);
            return 0;
        }, () -> m.assign(a, b, percent));
    }

    private void passTime() {
        int rest = Math.max(1, 30 - m.daysPassed());
        int days = pick(pace) == 0 ? rest : pick(5) == 0 ? number(1, 30) : number(1, rest);
        if (m.daysPassed() < 30 || pick(10) == 0) {
            same("passDays(" + days + ")", () -> x.passDays(days), () -> m.passDays(days));
        }
        if (m.daysPassed() == 30 || pick(10) == 0) {
            same("endMonth()", () -> x.endMonth(), () -> m.endMonth());
        }
    }

    private void useEnergy() {
        if (pick(2) == 0) {
            int hour = number(0, 23);
            int wh = wattHours();
            same("generate(" + hour + ", " + wh + ")", () -> x.generate(hour, wh),
                    () -> m.generate(hour, wh));
        } else {
            int s = active();
            int amount = wattHours();
            same("bill(" + s + ", " + amount + ")", () -> x.bill(s, amount),
                    () -> m.bill(s, amount));
        }
    }

    private void trueUp() {
        switch (pick(5)) {
            case 0:
                same("trueUp()", () -> x.trueUp(), () -> m.trueUp());
                break;
            case 1:
                same("shareFund()", () -> x.shareFund(), () -> m.shareFund());
                break;
            default:
                int month = anyMonth() - 1;
                int period = period();
                int wh = pick(3) == 0 ? 0 : wattHours();
                same("correct(" + month + ", " + period + ", " + wh + ")",
                        () -> x.correct(month, period, wh), () -> m.correct(month, period, wh));
        }
    }

    private void setup() {
        if (pick(3) == 0) {
            int length = number(0, 300);
            same("load(" + length + ")", () -> x.load(length), () -> m.load(length));
        } else {
            loadText(pick(3) > 0 ? damaged(garden()) : garden());
        }
        same("errorPosition()", () -> x.errorPosition(), () -> m.errorPosition());
    }

    private void loadText(String text) {
        byte[] bytes = text.getBytes(StandardCharsets.ISO_8859_1);
        for (int i = 0; i < bytes.length; i += 20) {
            int[] w = new int[5];
            for (int j = 0; j < 20; j++) {
                w[j / 4] = w[j / 4] << 8 | (i + j < bytes.length ? bytes[i + j] & 255 : 32);
            }
            same("append", () -> x.append(w[0], w[1], w[2], w[3], w[4]), () -> m.append(w));
        }
        same("load(" + text + ")", () -> x.load(bytes.length), () -> m.load(bytes.length));
    }

    private String garden() {
        int[] capacities = {1, 2, 7, 30, 100, 997, 100_000};
        StringBuilder text = new StringBuilder("garden ");
        text.append(capacities[pick(capacities.length)]).append(' ');
        text.append(pick(3) == 0 ? 1 + pick(24) : 1 + pick(4)).append(' ');
        text.append(pick(101)).append(' ').append(pick(2) == 0 ? 100 : 1 + pick(100)).append(';');
        int periods = 1 + pick(4);
        for (int i = 0; i < periods; i++) {
            text.append(pick(2) == 0 ? " " : "").append("period ").append(pick(201)).append(';');
        }
        for (int i = pick(6); i > 0; i--) {
            int first = pick(24);
            text.append("hours ").append(first).append(' ');
            text.append(first + 1 + pick(24 - first)).append(' ').append(pick(periods));
            text.append(pick(3) == 0 ? " ; " : ";");
        }
        return text.toString();
    }

    private String damaged(String text) {
        String[] pieces = {"", " ", ";", "0", "9", "x", "period 3;", "hours 1 2 0;", "period", "\u00e4",
            "garden", "999999999999999", "\n", "s", "00"};
        int from = pick(text.length() + 1);
        int to = Math.min(text.length(), from + pick(3));
        String result = text.substring(0, from) + pieces[pick(pieces.length)] + text.substring(to);
        result = pick(4) == 0 ? result.substring(0, pick(result.length() + 1)) : result;
        return result.substring(0, Math.min(300, result.length()));
    }

    private void forecast() {
        int s = subscriber();
        int p = participant();
        int ends = number(1, 12);
        int period = period();
        long amount = amount();
        switch (pick(8)) {
            case 0:
                same("projectedPart(" + p + ")", () -> x.projectedPart(p),
                        () -> m.projectedPart(p));
                break;
            case 1:
                same("projectedCredit(" + s + ")", () -> x.projectedCredit(s),
                        () -> m.projectedCredit(s));
                break;
            case 2:
            case 3:
                same("forecastBalance(" + s + ", " + ends + ")", () -> x.forecastBalance(s, ends),
                        () -> m.forecastBalance(s, ends));
                break;
            case 4:
                same("neededRate(" + p + ", " + period + ", " + amount + ")",
                        () -> x.neededRate(p, period, amount),
                        () -> m.neededRate(p, period, amount));
                break;
            case 5:
                same("neededShares(" + amount + ")", () -> x.neededShares(amount),
                        () -> m.neededShares(amount));
                break;
            case 6:
                same("expiring(" + s + ")", () -> x.expiring(s), () -> m.expiring(s));
                break;
            default:
                long bill = amount / (1 + pick(20));
                same("monthsCovered(" + s + ", " + bill + ")", () -> x.monthsCovered(s, bill),
                        () -> m.monthsCovered(s, bill));
        }
    }

    private void look() {
        int s = subscriber();
        int p = participant();
        int month = anyMonth();
        int period = period();
        int what = number(0, 5);
        boolean flag = pick(2) == 0;
        switch (pick(12)) {
            case 0:
                same("setting(" + what + ")", () -> x.setting(what), () -> m.setting(what));
                break;
            case 1:
                int hour = number(0, 23);
                same("periodOf(" + hour + ")", () -> x.periodOf(hour), () -> m.periodOf(hour));
                break;
            case 2:
                same("generation(" + month + ", " + period + ")",
                        () -> x.generation(month, period), () -> m.generation(month, period));
                break;
            case 3:
                same("shareDays(" + month + ", " + p + ")", () -> x.shareDays(month, p),
                        () -> m.shareDays(month, p));
                break;
            case 4:
                same("issued(" + month + ")", () -> x.issued(month), () -> m.issued(month));
                break;
            case 5:
                same("shareDayValue(" + month + ", " + flag + ")",
                        () -> x.shareDayValue(month, flag), () -> m.shareDayValue(month, flag));
                break;
            case 6:
                same("lot(" + s + ", " + month + ")", () -> x.lot(s, month), () -> m.lot(s, month));
                break;
            case 7:
                same("account(" + s + ", " + what + ")", () -> x.account(s, what),
                        () -> m.account(s, what));
                break;
            case 8:
                int index = number(0, 30);
                same("describedByte(" + index + ")", () -> x.describedByte(index),
                        () -> m.describedByte(index));
                break;
            case 9:
                same("describe(" + s + ")", () -> x.describe(s), () -> m.describe(s));
                break;
            default:
                lookAtMoney(s);
        }
    }

    private void lookAtMoney(int s) {
        same("balance(" + s + ")", () -> x.balance(s), () -> m.balance(s));
        same("fund()", () -> x.fund(), () -> m.fund());
        same("operatorAccount()", () -> x.operatorAccount(), () -> m.operatorAccount());
        same("state(" + s + ")", () -> x.state(s), () -> m.state(s));
        same("shares(" + s + ")", () -> x.shares(s), () -> m.shares(s));
        same("waitingPlace(" + s + ")", () -> x.waitingPlace(s), () -> m.waitingPlace(s));
    }

    private void lookAtAll() {
        same("subscriberCount()", () -> x.subscriberCount(), () -> m.subscriberCount());
        same("freeShares()", () -> x.freeShares(), () -> m.freeShares());
        same("month()", () -> x.month(), () -> m.month());
        same("fund()", () -> x.fund(), () -> m.fund());
        same("operatorAccount()", () -> x.operatorAccount(), () -> m.operatorAccount());
        for (int i = 0; i < m.subscriberCount(); i++) {
            int s = i;
            same("balance(" + s + ")", () -> x.balance(s), () -> m.balance(s));
            same("account(" + s + ", 0)", () -> x.account(s, 0), () -> m.account(s, 0));
            same("account(" + s + ", 2)", () -> x.account(s, 2), () -> m.account(s, 2));
        }
    }
}
