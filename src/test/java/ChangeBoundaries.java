/** Sections 5 and 6, the changes and exceptions, and promises 42 to 44. */
final class ChangeBoundaries extends Boundaries {
    private static final int SPACES = 0x20202020;

    private ChangeBoundaries() {
    }

    static void run() {
        calls512();
        changes();
        refusedCallsAreNoChanges();
        latestSix();
        notAffectedByUndo();
        throwingChangesNothing();
        firstExceptionOfChanges();
        firstExceptionOfOthers();
        numbersThatDoNotExist();
        describeActive();
        describeOthers();
        describeIsRefused();
        describedByte();
        undo();
    }

    /** Month 1: 0 and 1 are active with 4 and 3 of 10 shares, 2 waits, 3 has left; a fund of 5. */
    private static SolarLedger used() {
        SolarLedger x = Check.garden("garden 10 3 50 60;period 1;period 2;hours 12 13 1;");
        x.join(4, 4, 0);
        x.join(3, 3, 0);
        x.join(6, 6, 0);
        x.join(1, 1, 0);
        Check.endMonth(x, 100);
        x.leave(3);
        x.correct(0, 0, 90);
        x.assign(0, 1, 25);
        x.generate(0, 1000);
        return x;
    }

    private static SolarLedger fullMonth() {
        SolarLedger x = used();
        x.passDays(30);
        return x;
    }

    private static void calls512() {
        holds("What it is", "An object is used for at most 512 calls after it has been made", () -> {
            SolarLedger x = new SolarLedger();
            for (int call = 1; call < 512; call++) {
                due(call, x.generate(0, 1));
            }
            due(5, x.undo());
            SolarLedger y = new SolarLedger();
            for (int call = 0; call < 508; call++) {
                y.trueUp();
            }
            due(0, y.join(1000, 1, 0));
            due(10_000, y.generate(23, 10_000));
            due(30, y.passDays(30));
            due(100_000, y.endMonth());
        });
    }

    private static void isChange(Maker maker, Use call) {
        SolarLedger x = maker.make();
        String before = Look.books(x);
        call.on(x);
        due(5, x.undo());
        due(before, Look.books(x));
    }

    private static void changes() {
        holds("section 5", "The changes are all calls of load, join, more, reduce, transfer, assign, "
                + "leave, passDays, generate, bill, endMonth, correct, trueUp and shareFund that succeed",
                () -> {
            isChange(ChangeBoundaries::used, x -> Check.load(x, "garden 1 1 1 1;period 1;"));
            isChange(ChangeBoundaries::used, x -> x.join(1, 1, 0));
            isChange(ChangeBoundaries::used, x -> x.more(0, 1));
            isChange(ChangeBoundaries::used, x -> x.reduce(0, 3));
            isChange(ChangeBoundaries::used, x -> x.transfer(0, 1, 1));
            isChange(ChangeBoundaries::used, x -> x.assign(0, 1, 0));
            isChange(ChangeBoundaries::used, x -> x.leave(0));
            isChange(ChangeBoundaries::used, x -> x.leave(2));
            isChange(ChangeBoundaries::used, x -> x.passDays(1));
            isChange(ChangeBoundaries::used, x -> x.generate(12, 1));
            isChange(ChangeBoundaries::used, x -> x.bill(0, 1));
            isChange(ChangeBoundaries::fullMonth, x -> x.endMonth());
            isChange(ChangeBoundaries::used, x -> x.correct(0, 0, 90));
            isChange(ChangeBoundaries::used, x -> x.trueUp());
            isChange(ChangeBoundaries::used, x -> x.shareFund());
        });
        holds("section 5", "(a load with an error is no change)", () -> {
            SolarLedger x = new SolarLedger();
            x.generate(0, 1);
            due(SolarLedger.SYNTAX_ERROR, Check.load(x, "garden"));
            due(SolarLedger.VALUE_ERROR, Check.load(x, "garden 0"));
            due(SolarLedger.TOO_MANY, Check.load(x, "garden 1 1 1 1;" + "period 1;".repeat(5)));
            due(0, x.undo());
            due(0, x.generation(0, 0));
        });
    }

    /** One change has been made, and can be undone. */
    private static SolarLedger once() {
        SolarLedger x = new SolarLedger();
        x.join(10, 10, 0);
        return x;
    }

    private static void refusedCallsAreNoChanges() {
        Use[] calls = {x -> x.load(1), x -> x.join(0, 0, 0), x -> x.more(0, 991), x -> x.reduce(0, 10),
            x -> x.transfer(0, 0, 1), x -> x.assign(0, 1, 1), x -> x.leave(1), x -> x.passDays(31),
            x -> x.generate(24, 1), x -> x.bill(0, 0), x -> x.endMonth(), x -> x.correct(0, 0, 0),
            x -> x.shareFund()};
        holds("section 5", "and shareFund that succeed", () -> {
            for (Use call : calls) {
                SolarLedger x = once();
                try {
                    call.on(x);
                    Check.fail("a call that must be refused was not");
                } catch (RuntimeException e) {
                    due(0, x.undo());
                    due(0, x.subscriberCount());
                }
            }
        });
        holds("section 5", "The changes are all calls of", () -> {
            // No other call is a change.
            SolarLedger x = once();
            x.append(SPACES, SPACES, SPACES, SPACES, SPACES);
            Look.books(x);
            x.describe(0);
            x.describedByte(0);
            x.projectedPart(0);
            x.forecastBalance(0, 12);
            x.neededRate(0, 0, 0);
            x.issued(0);
            x.shareDayValue(0, true);
            x.neededShares(0);
            x.expiring(0);
            x.monthsCovered(0, 1);
            due(0, x.undo());
            due(0, x.subscriberCount());
        });
    }

    private static SolarLedger generatedTimes(int times) {
        SolarLedger x = new SolarLedger();
        for (int i = 0; i < times; i++) {
            x.generate(0, 1);
        }
        return x;
    }

    private static void latestSix() {
        holds("section 5", "The latest 6 changes can be undone.", () -> {
            // 500 changes go round many times in what is kept.
            for (int times : others(0, 1, 5, 6, 7, 12, 13, 500)) {
                due(Math.min(times, 6), undoable(generatedTimes(times)));
                SolarLedger x = generatedTimes(times);
                for (int undone = 1; undone <= Math.min(times, 6); undone++) {
                    x.undo();
                    due(times - undone, x.generation(0, 0));
                }
            }
        });
    }

    private static void notAffectedByUndo() {
        holds("section 5", "The text buffer and the description are not affected by this.", () -> {
            SolarLedger x = once();
            due(17, x.describe(0));
            Check.append(x, "garden 3 1 1 1;period 1;".getBytes());
            x.undo();
            due("0:active 10 0.000", Look.description(x));
            due(1, x.load(24));
            due("0:active 10 0.000", Look.description(x));
            x.undo();
            // The text that was read is not brought back.
            due(20, x.append(SPACES, SPACES, SPACES, SPACES, SPACES));
            due("0:active 10 0.000", Look.description(x));
        });
    }

    /** With a text in the buffer, a description and an error position. */
    private static SolarLedger marked() {
        SolarLedger x = used();
        Check.load(x, "garden 0");
        Check.append(x, "garden 3 1 1 1;period 1;".getBytes());
        x.describe(0);
        return x;
    }

    private static void throwingChangesNothing() {
        holds("section 6", "A method that throws an exception changes nothing.", () -> {
            refused(ARGUMENT, ChangeBoundaries::marked, x -> x.load(41));
            refused(ARGUMENT, ChangeBoundaries::marked, x -> x.setting(6));
            refused(INDEX, ChangeBoundaries::marked, x -> x.periodOf(24));
            refused(ARGUMENT, ChangeBoundaries::marked, x -> x.join(11, 1, 0));
            refused(STATE, ChangeBoundaries::marked, x -> x.more(0, 4));
            refused(STATE, ChangeBoundaries::marked, x -> x.reduce(0, 4));
            refused(STATE, ChangeBoundaries::marked, x -> x.transfer(0, 1, 4));
            refused(ARGUMENT, ChangeBoundaries::marked, x -> x.assign(1, 0, 1));
            refused(STATE, ChangeBoundaries::marked, x -> x.assign(1, 2, 0));
            refused(STATE, ChangeBoundaries::marked, x -> x.leave(3));
            refused(ARGUMENT, ChangeBoundaries::marked, x -> x.passDays(31));
            refused(STATE, ChangeBoundaries::marked, x -> x.generate(0, 1_000_000_000));
            refused(STATE, ChangeBoundaries::marked, x -> x.bill(2, 1));
            refused(STATE, ChangeBoundaries::marked, x -> x.endMonth());
            refused(ARGUMENT, ChangeBoundaries::marked, x -> x.forecastBalance(0, 13));
            refused(NO_ELEMENT, ChangeBoundaries::marked, x -> x.neededRate(0, 0, Long.MAX_VALUE));
            refused(NO_ELEMENT, ChangeBoundaries::marked, x -> x.neededShares(Long.MAX_VALUE));
            refused(ARGUMENT, ChangeBoundaries::marked, x -> x.monthsCovered(0, 0));
            refused(ARGUMENT, ChangeBoundaries::marked, x -> x.correct(0, 0, -1));
            refused(INDEX, ChangeBoundaries::marked, x -> x.describe(4));
            refused(INDEX, ChangeBoundaries::marked, x -> x.describedByte(-1));
            refused(STATE, SolarLedger::new, x -> x.shareFund());
            refused(STATE, SolarLedger::new, x -> x.undo());
        });
    }

    private static SolarLedger sixteen() {
        SolarLedger x = new SolarLedger();
        for (int i = 0; i < 16; i++) {
            x.join(1, 1, 0);
        }
        return x;
    }

    private static SolarLedger generated() {
        SolarLedger x = new SolarLedger();
        x.generate(0, 1_000_000_000);
        return x;
    }

    private static void firstExceptionOfChanges() {
        holds("section 6", "If several exceptions apply, the one named first is thrown.", () -> {
            Maker used = ChangeBoundaries::used;
            refused(ARGUMENT, ChangeBoundaries::sixteen, x -> x.join(1, 1, 10));
            refused(INDEX, used, x -> x.more(4, 0));
            refused(ARGUMENT, used, x -> x.more(2, 0));
            refused(INDEX, used, x -> x.reduce(4, 0));
            refused(ARGUMENT, used, x -> x.reduce(2, 0));
            refused(INDEX, used, x -> x.transfer(4, 4, 1));
            refused(INDEX, used, x -> x.transfer(2, 4, 0));
            refused(ARGUMENT, used, x -> x.transfer(2, 2, 1));
            refused(ARGUMENT, used, x -> x.transfer(2, 3, 0));
            refused(INDEX, used, x -> x.assign(4, 4, 1));
            refused(INDEX, used, x -> x.assign(2, 4, 101));
            refused(ARGUMENT, used, x -> x.assign(2, 2, 1));
            refused(ARGUMENT, used, x -> x.assign(2, 3, 101));
            refused(ARGUMENT, ChangeBoundaries::fullMonth, x -> x.passDays(31));
            refused(INDEX, used, x -> x.generate(24, 0));
            refused(INDEX, ChangeBoundaries::generated, x -> x.generate(24, 1));
            refused(ARGUMENT, ChangeBoundaries::generated, x -> x.generate(0, 1_000_000_001));
            refused(INDEX, used, x -> x.bill(4, 0));
            refused(ARGUMENT, used, x -> x.bill(2, 0));
        });
    }

    private static void firstExceptionOfOthers() {
        holds("section 6", "the one named first is thrown", () -> {
            Maker used = ChangeBoundaries::used;
            refused(INDEX, used, x -> x.forecastBalance(4, 0));
            refused(INDEX, used, x -> x.neededRate(4, 0, Long.MAX_VALUE));
            refused(INDEX, used, x -> x.neededRate(0, 2, Long.MAX_VALUE));
            refused(INDEX, used, x -> x.account(4, 6));
            refused(INDEX, used, x -> x.monthsCovered(4, 0));
            refused(INDEX, used, x -> x.correct(1, 0, -1));
            refused(INDEX, used, x -> x.correct(0, 2, -1));
            refused(INDEX, ChangeBoundaries::sixteen, x -> x.more(16, 0));
            refused(INDEX, ChangeBoundaries::sixteen, x -> x.transfer(16, 16, 0));
        });
    }

    private static void numbersThatDoNotExist() {
        holds("section 6", "An IndexOutOfBoundsException is thrown if a subscriber, period, month or hour "
                + "with the given number does not exist; past months are those before the present one.",
                () -> {
            Maker used = ChangeBoundaries::used;
            refused(INDEX, used, x -> x.state(4));
            refused(INDEX, used, x -> x.generation(0, 2));
            refused(INDEX, used, x -> x.issued(2));
            refused(INDEX, used, x -> x.periodOf(24));
            refused(INDEX, used, x -> x.correct(1, 0, 1));
            due(100, used.make().correct(0, 0, 1));
            // A subscriber whose joining is undone does not exist any more, nor does a month.
            SolarLedger x = once();
            x.undo();
            Check.fails("nobody", INDEX, () -> x.state(0));
            SolarLedger y = new SolarLedger();
            Check.endMonth(y, 0);
            y.undo();
            Check.fails("no month 1", INDEX, () -> y.issued(1));
            Check.fails("no past month", INDEX, () -> y.correct(0, 0, 1));
            // Nor do those of a garden that another one replaces.
            SolarLedger z = used.make();
            Check.load(z, "garden 10 1 1 100;period 1;");
            Check.fails("nobody", INDEX, () -> z.balance(0));
            Check.fails("no period 1", INDEX, () -> z.generation(0, 1));
            Check.fails("no month 1", INDEX, () -> z.lot(0, 1));
        });
    }

    private static void describeActive() {
        holds("promise 42", "or \"active\", the shares and the balance in cents with 3 decimal places",
                () -> {
            int[] balances = {0, 1, 9, 10, 99, 100, 999, 1000, 12_345, 1_000_000_000};
            String[] texts = {"0.000", "0.001", "0.009", "0.010", "0.099", "0.100", "0.999", "1.000",
                "12.345", "1000000.000"};
            for (int i = 0; i < balances.length; i++) {
                SolarLedger x = Check.garden("garden 1 3 50 100;period 1;");
                x.join(1, 1, 0);
                Check.endMonth(x, balances[i]);
                due("0:active 1 " + texts[i], Check.description(x, 0));
            }
            SolarLedger y = Check.garden("garden 100000 3 50 100;period 1;");
            y.join(100_000, 1, 0);
            due("0:active 100000 0.000", Check.description(y, 0));
            for (int shares : others(9, 10, 89, 90, 99, 100, 999, 99_999)) {
                SolarLedger z = Check.garden("garden 100000 3 50 100;period 1;");
                z.join(shares, 1, 0);
                due("0:active " + shares + " 0.000", Check.description(z, 0));
            }
        });
        holds("promise 42", "(and, if it has an assignment, a minus sign, a greater-than sign, the number "
                + "of the other subscriber, a colon, the percentage and a percent sign)", () -> {
            SolarLedger x = sixteen();
            x.assign(15, 0, 1);
            x.assign(14, 15, 100);
            due("15:active 1 0.000 ->0:1%", Check.description(x, 15));
            due("14:active 1 0.000 ->15:100%", Check.description(x, 14));
            due("0:active 1 0.000", Check.description(x, 0));
            x.assign(15, 0, 0);
            due("15:active 1 0.000", Check.description(x, 15));
        });
        holds("promise 42", "or 1:active 120 12.345 ->3:25%", () -> {
            SolarLedger x = Check.garden("garden 1000 3 50 100;period 1;");
            x.join(1, 1, 0);
            x.join(120, 120, 0);
            x.join(1, 1, 0);
            x.join(1, 1, 0);
            Check.endMonth(x, 102_875);
            x.assign(1, 3, 25);
            due("1:active 120 12.345 ->3:25%", Check.description(x, 1));
            due(27, x.describe(1));
        });
    }

    private static void describeOthers() {
        holds("promise 42", "or \"left\" and what was paid out in cents with 3 decimal places", () -> {
            SolarLedger x = used();
            due("3:left 0.005", Check.description(x, 3));
            x.leave(2);
            due("2:left 0.000", Check.description(x, 2));
        });
        holds("promise 42", "as in these examples: 0:waiting 2 50", () -> {
            SolarLedger x = Check.garden("garden 100 3 50 10;period 1;");
            x.join(60, 50, 0);
            x.join(60, 50, 1);
            x.join(60, 50, 1);
            due("0:waiting 2 50", Check.description(x, 0));
            due("1:waiting 0 50", Check.description(x, 1));
            due("2:waiting 1 50", Check.description(x, 2));
            SolarLedger y = Check.garden("garden 100000 3 50 10;period 1;");
            for (int i = 0; i < 16; i++) {
                y.join(100_000, 99_999, 0);
            }
            due("9:waiting 9 99999", Check.description(y, 9));
            due("15:waiting 15 99999", Check.description(y, 15));
        });
        holds("promise 42", "or 2:left 0.500.", () -> {
            SolarLedger x = Check.garden("garden 1000 3 50 100;period 1;");
            x.join(1, 1, 0);
            x.join(1, 1, 0);
            x.join(500, 500, 0);
            Check.endMonth(x, 2000);
            due(500, x.leave(2));
            due("2:left 0.500", Check.description(x, 2));
        });
        holds("promise 42", "Describes a subscriber, in place of an earlier description", () -> {
            SolarLedger x = used();
            x.describe(0);
            due("0:active 4 0.040 ->1:25%", Look.description(x));
            due(12, x.describe(3));
            due("3:left 0.005", Look.description(x));
        });
    }

    private static void describeIsRefused() {
        holds("promise 42", "Throws `IndexOutOfBoundsException` if the subscriber does not exist", () -> {
            refusedForEach(INDEX, ChangeBoundaries::marked, others(-1, 4, 16, LEAST, GREATEST),
                    (x, s) -> x.describe(s));
            refused(INDEX, SolarLedger::new, x -> x.describe(0));
        });
    }

    private static void describedByte() {
        holds("promise 43", "`index`: index, from 0", () -> {
            SolarLedger x = marked();
            int length = x.describe(3);
            due('3', x.describedByte(0));
            due('5', x.describedByte(length - 1));
        });
        holds("promise 43", "Throws `IndexOutOfBoundsException` if the description is not so long", () -> {
            Maker described = () -> {
                SolarLedger x = marked();
                x.describe(0);
                x.describe(3);
                return x;
            };
            // An earlier, longer description has no bytes left.
            refusedForEach(INDEX, described, others(-1, 12, 13, 23, LEAST, GREATEST),
                    (x, index) -> x.describedByte(index));
        });
        holds("promise 43", "or nothing has been described", () -> {
            refusedForEach(INDEX, ChangeBoundaries::used, others(0, -1, 1, LEAST, GREATEST),
                    (x, index) -> x.describedByte(index));
            SolarLedger x = used();
            Check.fails("describe nobody", INDEX, () -> x.describe(4));
            Check.fails("still nothing", INDEX, () -> x.describedByte(0));
        });
    }

    private static void undo() {
        holds("promise 44", "Throws `IllegalStateException` if there is no change to undo", () -> {
            refused(STATE, SolarLedger::new, x -> x.undo());
            Maker allUndone = () -> {
                SolarLedger x = generatedTimes(9);
                for (int i = 0; i < 6; i++) {
                    x.undo();
                }
                return x;
            };
            due(3, allUndone.make().generation(0, 0));
            refused(STATE, allUndone, x -> x.undo());
        });
        holds("promise 44", "Returns the number of changes that can still be undone.", () -> {
            SolarLedger x = generatedTimes(9);
            for (int left = 5; left >= 0; left--) {
                due(left, x.undo());
            }
            x.generate(0, 1);
            x.generate(0, 1);
            due(1, x.undo());
            due(0, x.undo());
            due(3, x.generation(0, 0));
        });
        holds("promise 44", "Undoes the latest change", () -> {
            // What does not show at once comes back too: corrections, and what those who wait want.
            SolarLedger x = used();
            x.correct(0, 0, 80);
            x.correct(0, 1, 5);
            x.undo();
            due(-20, x.trueUp());
            x.undo();
            due(-20, x.trueUp());
            x.undo();
            x.undo();
            due(-10, x.trueUp());
            SolarLedger y = Check.garden("garden 10 3 50 100;period 1;");
            y.join(10, 1, 0);
            y.join(8, 6, 3);
            y.join(9, 2, 2);
            Check.load(y, "garden 10 3 50 100;period 1;");
            y.join(1, 1, 9);
            y.join(3, 3, 0);
            y.join(2, 1, 9);
            for (int i = 0; i < 4; i++) {
                y.undo();
            }
            due("1:waiting 0 6", Check.description(y, 1));
            due("2:waiting 1 2", Check.description(y, 2));
            due(1, y.reduce(0, 9));
            due(8, y.shares(1));
            due(0, y.shares(2));
        });
        holds("promise 44", "Undoes the latest change that has not been undone.", () -> {
            SolarLedger x = new SolarLedger();
            for (int wattHours : others(1, 10, 100, 1000)) {
                x.generate(0, wattHours);
            }
            x.undo();
            x.undo();
            due(11, x.generation(0, 0));
            x.generate(0, 10_000);
            x.undo();
            due(11, x.generation(0, 0));
            x.undo();
            due(1, x.generation(0, 0));
            // An undo cannot be undone.
            due(0, x.undo());
            due(0, x.generation(0, 0));
        });
    }
}
