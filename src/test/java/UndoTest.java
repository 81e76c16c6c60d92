/** Promise 44: undo, for every kind of change; and that a refused call is no change. */
public final class UndoTest {
    private UndoTest() {
    }

    public static void main(String[] args) {
        atMostSix();
        everyChangeIsUndone();
        refusedCallsAreNoChanges();
        undoAcrossLoad();
        undoBringsBackWhoWaits();
        changesAfterUndo();
        pushedOutStaysOut();
        theTextBufferStays();
        Check.finish();
    }

    private static void atMostSix() {
        SolarLedger x = new SolarLedger();
        Check.fails("nothing to undo", Check.STATE, () -> x.undo());
        for (int i = 1; i <= 10; i++) {
            x.generate(0, 1);
        }
        for (int left = 5; left >= 0; left--) {
            Check.due("undo", left, x.undo());
            Check.due("generation", 4 + left, x.generation(0, 0));
        }
        Check.fails("no more", Check.STATE, () -> x.undo());
        Check.due("generation stays", 4, x.generation(0, 0));
    }

    private static SolarLedger ledger() {
        SolarLedger x = Check.garden("garden 10 2 50 60;period 3;period 20;hours 8 9 1;");
        x.join(3, 1, 0);
        x.join(4, 1, 0);
        x.join(6, 6, 0);
        x.bill(0, 500);
        x.generate(8, 77);
        Check.endMonth(x, 100);
        x.assign(1, 0, 10);
        x.generate(0, 1000);
        x.passDays(10);
        return x;
    }

    private static void undone(String name, SolarLedger x, boolean canBeSeen, Check.Action change) {
        String before = Look.books(x);
        change.run();
        if (canBeSeen && Look.books(x).equals(before)) {
            Check.fail(name + " changed nothing");
        }
        Check.due(name + " can be undone", 5, x.undo());
        Check.due("undo of " + name, before, Look.books(x));
    }

    private static void everyChangeIsUndone() {
        undoneHere("load", true, x -> Check.load(x, "garden 8 1 1 1;period 2;"));
        undoneHere("join", true, x -> x.join(1, 1, 0));
        undoneHere("more", true, x -> x.more(0, 1));
        undoneHere("reduce", true, x -> x.reduce(1, 3));
        undoneHere("transfer", true, x -> x.transfer(0, 1, 1));
        undoneHere("assign", true, x -> x.assign(1, 0, 0));
        undoneHere("assign again", true, x -> x.assign(1, 0, 90));
        undoneHere("leave", true, x -> x.leave(1));
        undoneHere("leave the list", true, x -> x.leave(2));
        undoneHere("passDays", true, x -> x.passDays(3));
        undoneHere("generate", true, x -> x.generate(8, 4));
        undoneHere("bill", true, x -> x.bill(0, 4));
        undoneHere("correct", false, x -> x.correct(0, 0, 4));
        undoneHere("trueUp without corrections", false, x -> x.trueUp());
        SolarLedger x = ledger();
        x.passDays(20);
        undone("endMonth", x, true, () -> x.endMonth());
        x.correct(0, 1, 5);
        x.correct(0, 0, 900);
        undone("trueUp", x, true, () -> x.trueUp());
        Check.due("the corrections are back", 2400 - 72 * 20, x.trueUp());
        x.undo();
        x.undo();
        Check.due("one correction is undone", -72 * 20, x.trueUp());
        x.leave(1);
        undone("shareFund", x, true, () -> x.shareFund());
    }

    private interface Change {
        void on(SolarLedger x);
    }

    private static void undoneHere(String name, boolean canBeSeen, Change change) {
        SolarLedger x = ledger();
        undone(name, x, canBeSeen, () -> change.on(x));
    }

    private static void refusedCallsAreNoChanges() {
        SolarLedger x = new SolarLedger();
        x.join(10, 10, 0);
        String before = Look.books(x);
        Check.fails("join", Check.ARGUMENT, () -> x.join(0, 0, 0));
        Check.fails("more", Check.STATE, () -> x.more(0, 1000));
        Check.fails("reduce", Check.STATE, () -> x.reduce(0, 10));
        Check.fails("transfer", Check.INDEX, () -> x.transfer(0, 1, 1));
        Check.fails("assign", Check.INDEX, () -> x.assign(0, 1, 1));
        Check.fails("leave", Check.INDEX, () -> x.leave(1));
        Check.fails("passDays", Check.ARGUMENT, () -> x.passDays(0));
        Check.fails("generate", Check.INDEX, () -> x.generate(24, 1));
        Check.fails("bill", Check.ARGUMENT, () -> x.bill(0, 0));
        Check.fails("endMonth", Check.STATE, () -> x.endMonth());
        Check.fails("correct", Check.INDEX, () -> x.correct(0, 0, 0));
        Check.fails("shareFund", Check.STATE, () -> x.shareFund());
        Check.due("a load with an error", SolarLedger.SYNTAX_ERROR, Check.load(x, "garden"));
        x.describe(0);
        x.forecastBalance(0, 3);
        Check.due("nothing was changed", before, Look.books(x));
        Check.due("one change", 0, x.undo());
        Check.due("it was the join", 0, x.subscriberCount());
    }

    private static void undoAcrossLoad() {
        SolarLedger x = ledger();
        String before = Look.books(x);
        Check.load(x, "garden 1 1 1 1;period 1;");
        x.join(1, 1, 5);
        x.passDays(30);
        x.generate(0, 12);
        x.endMonth();
        Check.due("fifth", 5, x.undo());
        Check.due("month", 0, x.month());
        x.undo();
        x.undo();
        x.undo();
        Check.due("the load", 1, x.undo());
        Check.due("the old garden", before, Look.books(x));
        Check.due("the change before it", 0, x.undo());
        Check.due("free days", 30, x.passDays(30));
    }

    private static void undoBringsBackWhoWaits() {
        SolarLedger x = Check.garden("garden 10 2 50 100;period 1;");
        x.join(5, 1, 0);
        x.join(8, 4, 3);
        x.join(9, 2, 2);
        x.undo();
        x.undo();
        x.join(9, 9, 0);
        x.join(9, 9, 9);
        x.undo();
        x.undo();
        x.join(8, 6, 3);
        x.join(7, 6, 2);
        Check.load(x, "garden 10 2 50 100;period 1;");
        x.join(1, 1, 1);
        x.join(2, 1, 1);
        x.join(3, 1, 9);
        x.undo();
        x.undo();
        x.undo();
        x.undo();
        Check.due("a description", "1:waiting 0 6", Check.description(x, 1));
        Check.due("priority", 1, x.waitingPlace(2));
        Check.due("wanted and minimum", 0, x.reduce(0, 3));
        Check.due("shares", 8, x.shares(1));
    }

    private static void changesAfterUndo() {
        SolarLedger x = new SolarLedger();
        x.join(1, 1, 0);
        x.join(2, 1, 0);
        x.join(3, 1, 0);
        x.undo();
        x.undo();
        Check.due("again the second", 1, x.join(7, 1, 0));
        Check.due("its shares", 7, x.shares(1));
        Check.due("its share-days", 0, x.shareDays(0, 1));
        Check.due("one left", 1, x.undo());
        Check.due("none left", 0, x.undo());
        Check.due("nobody", 0, x.subscriberCount());
        Check.fails("no more", Check.STATE, () -> x.undo());
    }

    private static void pushedOutStaysOut() {
        SolarLedger x = new SolarLedger();
        for (int i = 1; i <= 7; i++) {
            x.generate(0, 1);
        }
        Check.due("first undo", 5, x.undo());
        Check.due("second undo", 4, x.undo());
        x.generate(0, 10);
        for (int left = 4; left >= 0; left--) {
            Check.due("undo", left, x.undo());
            Check.due("generation", 1 + left, x.generation(0, 0));
        }
        Check.fails("the first change", Check.STATE, () -> x.undo());
    }

    private static void theTextBufferStays() {
        SolarLedger x = new SolarLedger();
        x.generate(0, 1);
        Check.append(x, "garden 3 1 1 1;period 1;".getBytes());
        x.undo();
        Check.due("the text is still there", 1, x.load(24));
        x.undo();
        Check.fails("the text is not brought back", Check.ARGUMENT, () -> x.load(1));
        Check.due("append begins anew", 20, x.append(0, 0, 0, 0, 0));
    }
}
