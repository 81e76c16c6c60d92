/** Promises 42 and 43: descriptions. */
public final class DescriptionsTest {
    private DescriptionsTest() {
    }

    public static void main(String[] args) {
        describe();
        numbersOfTwoDigits();
        bytes();
        undoDoesNotMatter();
        Check.finish();
    }

    private static void describe() {
        SolarLedger x = Check.garden("garden 1000 9 50 100;period 1;");
        x.join(500, 500, 0);
        x.join(500, 500, 0);
        x.join(100, 50, 0);
        x.join(100, 70, 9);
        Check.due("active", "0:active 500 0.000", Check.description(x, 0));
        Check.due("waiting", "2:waiting 1 50", Check.description(x, 2));
        Check.due("first on the list", "3:waiting 0 70", Check.description(x, 3));
        x.assign(0, 1, 25);
        Check.endMonth(x, 24_690);
        Check.due("assignment", "0:active 500 9.259 ->1:25%", Check.description(x, 0));
        Check.due("assigned to", "1:active 500 15.431", Check.description(x, 1));
        x.assign(0, 1, 100);
        Check.due("100 percent", "0:active 500 9.259 ->1:100%", Check.description(x, 0));
        x.assign(0, 1, 0);
        Check.due("no assignment", "0:active 500 9.259", Check.description(x, 0));
        x.leave(0);
        Check.due("left", "0:left 4.629", Check.description(x, 0));
        x.join(1000, 1000, 0);
        x.leave(4);
        Check.due("left the list", "4:left 0.000", Check.description(x, 4));
    }

    private static void numbersOfTwoDigits() {
        SolarLedger x = Check.garden("garden 100000 9 1 100;period 1;");
        for (int i = 0; i < 15; i++) {
            x.join(10, 1, 0);
        }
        x.join(99_850, 1, 0);
        x.assign(10, 15, 7);
        Check.due("10", "10:active 10 0.000 ->15:7%", Check.description(x, 10));
        Check.endMonth(x, 10_000);
        Check.due("9", "9:active 10 0.001", Check.description(x, 9));
        Check.due("15", "15:active 99850 9.985", Check.description(x, 15));
        Check.endMonth(x, 100_000_000);
        Check.due("15 again", "15:active 99850 99860.685", Check.description(x, 15));
        x.leave(15);
        Check.due("15 left", "15:left 998.606", Check.description(x, 15));
    }

    private static void bytes() {
        SolarLedger x = new SolarLedger();
        Check.fails("nothing described", Check.INDEX, () -> x.describedByte(0));
        Check.fails("nobody", Check.INDEX, () -> x.describe(0));
        x.join(5, 5, 0);
        Check.due("length", 16, x.describe(0));
        Check.due("first", '0', x.describedByte(0));
        Check.due("last", '0', x.describedByte(15));
        Check.fails("16", Check.INDEX, () -> x.describedByte(16));
        Check.fails("-1", Check.INDEX, () -> x.describedByte(-1));
        Check.fails("great", Check.INDEX, () -> x.describedByte(Integer.MAX_VALUE));
        Check.fails("nobody again", Check.INDEX, () -> x.describe(1));
        Check.due("it stays", ':', x.describedByte(1));
        x.leave(0);
        Check.due("it stays after a change", 'a', x.describedByte(2));
        Check.due("a shorter one", 12, x.describe(0));
        Check.fails("12", Check.INDEX, () -> x.describedByte(12));
    }

    private static void undoDoesNotMatter() {
        SolarLedger x = new SolarLedger();
        x.join(5, 5, 0);
        x.describe(0);
        x.undo();
        Check.due("after undo", 'a', x.describedByte(2));
        Check.load(x, "garden 1 1 1 1;period 1;");
        Check.due("after load", 'a', x.describedByte(2));
    }
}
