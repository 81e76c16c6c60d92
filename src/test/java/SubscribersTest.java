/** Promises 7 to 17: joining, shares, assignments, leaving and the waiting list. */
public final class SubscribersTest {
    private static final String HUNDRED = "garden 100 3 50 60;period 10;";

    private SubscribersTest() {
    }

    public static void main(String[] args) {
        joinRanges();
        joinAtMost16();
        waitingListOrder();
        listGivesWhatIsFree();
        oneShareIsAlwaysAllowed();
        more();
        reduce();
        transfer();
        assignErrors();
        longestCircle();
        assignReplacesAndEnds();
        leaveErrors();
        leaveFreesShares();
        leaveEndsAssignments();
        lookErrors();
        Check.finish();
    }

    private static void joinRanges() {
        SolarLedger x = Check.garden(HUNDRED);
        Check.fails("wanted 0", Check.ARGUMENT, () -> x.join(0, 0, 0));
        Check.fails("wanted 101", Check.ARGUMENT, () -> x.join(101, 1, 0));
        Check.fails("minimum 0", Check.ARGUMENT, () -> x.join(5, 0, 0));
        Check.fails("minimum over wanted", Check.ARGUMENT, () -> x.join(5, 6, 0));
        Check.fails("priority -1", Check.ARGUMENT, () -> x.join(5, 5, -1));
        Check.fails("priority 10", Check.ARGUMENT, () -> x.join(5, 5, 10));
        Check.due("nobody yet", 0, x.subscriberCount());
        Check.due("first", 0, x.join(100, 1, 9));
        Check.due("second", 1, x.join(1, 1, 0));
        Check.due("two", 2, x.subscriberCount());
        Check.due("limit", 60, x.shares(0));
        Check.due("wanted", 1, x.shares(1));
        Check.due("free", 39, x.freeShares());
    }

    private static void joinAtMost16() {
        SolarLedger x = Check.garden(HUNDRED);
        for (int i = 0; i < 16; i++) {
            Check.due("join", i, x.join(1, 1, 0));
        }
        Check.fails("a seventeenth", Check.STATE, () -> x.join(1, 1, 0));
        Check.fails("a seventeenth, wrong too", Check.ARGUMENT, () -> x.join(1, 1, 10));
        x.leave(3);
        Check.due("those who left count", 16, x.subscriberCount());
        Check.fails("still 16", Check.STATE, () -> x.join(1, 1, 0));
    }

    private static void waitingListOrder() {
        SolarLedger x = Check.garden(HUNDRED);
        x.join(60, 60, 0);
        x.join(40, 40, 0);
        x.join(20, 20, 3);
        x.join(20, 20, 7);
        x.join(20, 20, 3);
        x.join(20, 20, 9);
        int[] places = {-1, -1, 2, 1, 3, 0};
        int[] states = {1, 1, 0, 0, 0, 0};
        for (int i = 0; i < places.length; i++) {
            Check.due("place of " + i, places[i], x.waitingPlace(i));
            Check.due("state of " + i, states[i], x.state(i));
            Check.due("shares of " + i, i == 0 ? 60 : i == 1 ? 40 : 0, x.shares(i));
        }
        Check.due("paid to one who waits", 0, x.leave(5));
        Check.due("state after leaving", 2, x.state(5));
        Check.due("place after leaving", -1, x.waitingPlace(5));
        Check.due("place of 3", 0, x.waitingPlace(3));
        Check.due("two get shares", 19, x.reduce(0, 59));
        Check.due("3 is active", 1, x.state(3));
        Check.due("2 is active", 1, x.state(2));
        Check.due("4 waits", 0, x.waitingPlace(4));
    }

    private static void listGivesWhatIsFree() {
        SolarLedger x = Check.garden(HUNDRED);
        x.join(50, 1, 0);
        x.join(45, 1, 0);
        x.join(30, 6, 9);
        x.join(30, 2, 1);
        Check.due("the first of the list is passed over", 0, x.waitingPlace(2));
        Check.due("the second gets the rest", 5, x.shares(3));
        Check.due("nothing is free", 0, x.freeShares());
        Check.due("less than wanted is enough", 0, x.reduce(0, 6));
        Check.due("the minimum", 6, x.shares(2));
    }

    private static void oneShareIsAlwaysAllowed() {
        SolarLedger x = Check.garden("garden 9 3 50 5;period 10;");
        x.join(9, 1, 0);
        x.join(9, 2, 0);
        Check.due("one share", 1, x.shares(0));
        Check.due("a minimum above the limit waits", 0, x.state(1));
    }

    private static void more() {
        SolarLedger x = Check.garden(HUNDRED);
        x.join(10, 10, 0);
        x.join(60, 60, 0);
        x.join(31, 31, 0);
        Check.due("more, whoever waits", 30, x.more(0, 20));
        Check.fails("more than free", Check.STATE, () -> x.more(0, 11));
        Check.fails("more than the limit", Check.STATE, () -> x.more(1, 1));
        Check.fails("more of one who waits", Check.STATE, () -> x.more(2, 1));
        Check.fails("more, the greatest int", Check.STATE, () -> x.more(0, Integer.MAX_VALUE));
        Check.fails("more 0", Check.ARGUMENT, () -> x.more(2, 0));
        Check.fails("more of nobody", Check.INDEX, () -> x.more(3, 0));
        Check.fails("more of -1", Check.INDEX, () -> x.more(-1, 1));
        Check.due("all the rest", 40, x.more(0, 10));
        Check.due("nothing is free", 0, x.freeShares());
    }

    private static void reduce() {
        SolarLedger x = Check.garden(HUNDRED);
        x.join(60, 1, 0);
        x.join(60, 50, 0);
        Check.due("not yet enough", 49, x.reduce(0, 9));
        Check.due("enough", 0, x.reduce(0, 1));
        Check.due("the other one", 50, x.shares(1));
        Check.fails("all", Check.STATE, () -> x.reduce(0, 50));
        Check.fails("the greatest int", Check.STATE, () -> x.reduce(0, Integer.MAX_VALUE));
        Check.due("all but one", 49, x.reduce(0, 49));
        x.join(60, 60, 0);
        Check.fails("of one who waits", Check.STATE, () -> x.reduce(2, 1));
        Check.fails("reduce 0", Check.ARGUMENT, () -> x.reduce(2, 0));
        Check.fails("reduce of nobody", Check.INDEX, () -> x.reduce(3, 0));
    }

    private static void transfer() {
        SolarLedger x = Check.garden(HUNDRED);
        x.join(50, 1, 0);
        x.join(40, 1, 0);
        x.join(60, 60, 0);
        Check.fails("all there is", Check.STATE, () -> x.transfer(1, 0, 40));
        Check.due("transfer", 60, x.transfer(0, 1, 20));
        Check.due("the giver", 30, x.shares(0));
        Check.due("free shares stay", 10, x.freeShares());
        Check.fails("over the limit", Check.STATE, () -> x.transfer(0, 1, 1));
        Check.fails("the greatest int", Check.STATE, () -> x.transfer(0, 1, Integer.MAX_VALUE));
        Check.fails("to one who waits", Check.STATE, () -> x.transfer(0, 2, 1));
        Check.fails("from one who waits", Check.STATE, () -> x.transfer(2, 0, 1));
        Check.fails("to itself", Check.ARGUMENT, () -> x.transfer(2, 2, 1));
        Check.fails("transfer 0", Check.ARGUMENT, () -> x.transfer(0, 2, 0));
        Check.fails("from nobody", Check.INDEX, () -> x.transfer(3, 3, 1));
        Check.fails("from -1", Check.INDEX, () -> x.transfer(-1, 0, 1));
        Check.fails("to nobody", Check.INDEX, () -> x.transfer(0, 3, 0));
        Check.fails("all", Check.STATE, () -> x.transfer(1, 0, 60));
        Check.due("back", 60, x.transfer(1, 0, 30));
        Check.fails("all that it keeps", Check.STATE, () -> x.transfer(1, 0, 30));
        Check.due("0 gives", 59, x.transfer(0, 1, 29));
        Check.due("0 gives to the limit", 60, x.transfer(0, 1, 1));
        x.reduce(0, 29);
        x.reduce(1, 10);
        Check.fails("its only share", Check.STATE, () -> x.transfer(0, 1, 1));
    }

    private static void assignErrors() {
        SolarLedger x = Check.garden(HUNDRED);
        for (int i = 0; i < 4; i++) {
            x.join(10, 10, 0);
        }
        x.join(60, 60, 9);
        x.join(61, 61, 0);
        x.assign(0, 1, 10);
        x.assign(1, 2, 1);
        Check.fails("a circle of two", Check.ARGUMENT, () -> x.assign(1, 0, 1));
        Check.fails("a circle of three", Check.ARGUMENT, () -> x.assign(2, 0, 100));
        Check.fails("to itself", Check.ARGUMENT, () -> x.assign(0, 0, 0));
        Check.fails("percent -1", Check.ARGUMENT, () -> x.assign(0, 5, -1));
        Check.fails("percent 101", Check.ARGUMENT, () -> x.assign(0, 5, 101));
        Check.fails("to one who waits", Check.STATE, () -> x.assign(0, 5, 5));
        Check.fails("to one who waits, 0", Check.STATE, () -> x.assign(0, 5, 0));
        Check.fails("of one who waits", Check.STATE, () -> x.assign(5, 0, 5));
        Check.fails("to nobody", Check.INDEX, () -> x.assign(0, 6, 101));
        Check.fails("of nobody", Check.INDEX, () -> x.assign(-1, 0, 5));
        x.assign(2, 0, 0);
        x.assign(2, 3, 5);
        x.assign(3, 4, 5);
        Check.fails("a circle of five", Check.ARGUMENT, () -> x.assign(4, 0, 1));
        Check.due("nothing was changed", "4:active 60 0.000", Check.description(x, 4));
    }

    private static void longestCircle() {
        SolarLedger x = Check.garden(HUNDRED);
        for (int i = 0; i < 16; i++) {
            x.join(1, 1, 0);
        }
        for (int i = 1; i < 16; i++) {
            x.assign(i, i - 1, 100);
        }
        Check.fails("a circle of sixteen", Check.ARGUMENT, () -> x.assign(0, 15, 1));
        x.generate(0, 100);
        Check.due("all comes to 0", 160, x.projectedCredit(0));
        Check.due("nothing stays with 7", 0, x.projectedCredit(7));
    }

    private static void assignReplacesAndEnds() {
        SolarLedger x = Check.garden(HUNDRED);
        for (int i = 0; i < 3; i++) {
            x.join(10, 10, 0);
        }
        x.assign(0, 1, 10);
        x.assign(0, 2, 20);
        Check.due("replaced", "0:active 10 0.000 ->2:20%", Check.description(x, 0));
        x.assign(1, 0, 5);
        Check.due("the old one is no circle", "1:active 10 0.000 ->0:5%", Check.description(x, 1));
        x.assign(0, 1, 0);
        Check.due("0 ends it, whomever it names", "0:active 10 0.000", Check.description(x, 0));
        x.assign(2, 1, 100);
        Check.due("no circle any more", "2:active 10 0.000 ->1:100%", Check.description(x, 2));
    }

    private static void leaveErrors() {
        SolarLedger x = Check.garden(HUNDRED);
        x.join(1, 1, 0);
        Check.fails("nobody", Check.INDEX, () -> x.leave(1));
        Check.fails("-1", Check.INDEX, () -> x.leave(-1));
        Check.due("without credits", 0, x.leave(0));
        Check.fails("again", Check.STATE, () -> x.leave(0));
        Check.due("state", 2, x.state(0));
        Check.due("shares", 0, x.shares(0));
        Check.fails("bill after leaving", Check.STATE, () -> x.bill(0, 1));
    }

    private static void leaveFreesShares() {
        SolarLedger x = Check.garden(HUNDRED);
        x.join(60, 1, 0);
        x.join(40, 1, 0);
        x.join(40, 30, 0);
        x.passDays(10);
        x.leave(1);
        Check.due("who waited is active", 40, x.shares(2));
        x.leave(0);
        Check.due("free", 60, x.freeShares());
        x.passDays(20);
        Check.due("share-days stay", 600, x.shareDays(0, 0));
        Check.due("share-days stay", 400, x.shareDays(0, 1));
        Check.due("share-days of the new one", 800, x.shareDays(0, 2));
        Check.due("share-days of the operator", 1200, x.shareDays(0, -1));
    }

    private static void leaveEndsAssignments() {
        SolarLedger x = Check.garden(HUNDRED);
        for (int i = 0; i < 3; i++) {
            x.join(10, 10, 0);
        }
        x.assign(0, 1, 10);
        x.assign(1, 2, 10);
        x.leave(1);
        Check.due("to it", "0:active 10 0.000", Check.description(x, 0));
        x.generate(0, 3000);
        Check.due("nothing passed on", 3000, x.projectedCredit(2));
        x.assign(2, 0, 10);
        Check.due("of another one", "2:active 10 0.000 ->0:10%", Check.description(x, 2));
    }

    private static void lookErrors() {
        SolarLedger x = Check.garden(HUNDRED);
        x.join(1, 1, 0);
        int[] nobody = {-1, 1, 16, Integer.MAX_VALUE, Integer.MIN_VALUE};
        for (int s : nobody) {
            Check.fails("state of " + s, Check.INDEX, () -> x.state(s));
            Check.fails("shares of " + s, Check.INDEX, () -> x.shares(s));
            Check.fails("waitingPlace of " + s, Check.INDEX, () -> x.waitingPlace(s));
        }
        Check.due("one", 1, x.subscriberCount());
    }
}
