/** Promises 8 to 11: more, reduce, transfer and assign. */
final class ShareBoundaries extends Boundaries {
    private static final int[] NOBODY = {-1, 4, 16, LEAST, GREATEST};
    private static final Maker CROWD = SubscriberBoundaries::crowd;

    private ShareBoundaries() {
    }

    static void run() {
        more();
        moreIsRefused();
        reduce();
        transfer();
        transferIsRefused();
        assign();
        assignIsRefused();
        circles();
    }

    private static void more() {
        holds("promise 8", "Gives free shares to an active subscriber in addition (the waiting list "
                + "does not matter).", () -> {
            SolarLedger x = CROWD.make();
            x.join(11, 11, 9);
            due(0, x.state(4));
            due(50, x.more(1, 10));
            due(0, x.freeShares());
            due(0, x.state(4));
        });
        holds("promise 8", "`count`: number of shares, at least 1", () -> {
            due(51, CROWD.make().more(0, 1));
            refused(ARGUMENT, CROWD, x -> x.more(0, 0));
        });
        holds("promise 8", "Throws `IndexOutOfBoundsException` if the subscriber does not exist", () ->
            refusedForEach(INDEX, CROWD, NOBODY, (x, s) -> x.more(s, 1)));
        holds("promise 8", "Throws `IllegalArgumentException` if count is less than 1", () ->
            refusedForEach(ARGUMENT, CROWD, others(0, -1, LEAST), (x, count) -> x.more(0, count)));
    }

    private static void moreIsRefused() {
        holds("promise 8", "Throws `IllegalStateException` if the subscriber is not active", () -> {
            refused(STATE, CROWD, x -> x.more(2, 1));
            refused(STATE, CROWD, x -> x.more(3, 1));
        });
        holds("promise 8", "fewer shares are free", () -> {
            refused(STATE, CROWD, x -> x.more(1, 11));
            due(50, CROWD.make().more(1, 10));
            refused(STATE, () -> {
                SolarLedger x = CROWD.make();
                x.more(1, 10);
                return x;
            }, x -> x.more(1, 1));
            refused(STATE, CROWD, x -> x.more(1, GREATEST));
        });
        holds("promise 8", "or it would hold more shares than allowed", () -> {
            Maker roomy = () -> {
                SolarLedger x = Check.garden("garden 100 3 50 60;period 10;");
                x.join(50, 1, 0);
                return x;
            };
            due(60, roomy.make().more(0, 10));
            refused(STATE, roomy, x -> x.more(0, 11));
            refused(STATE, roomy, x -> x.more(0, GREATEST));
        });
    }

    private static void reduce() {
        holds("promise 9", "Frees shares of an active subscriber, who keeps at least one; then the "
                + "waiting list is gone through.", () -> {
            SolarLedger x = CROWD.make();
            due(59, x.reduce(0, 49));
            due(1, x.shares(0));
            due(0, x.state(2));
            due(0, x.reduce(1, 1));
            due(60, x.shares(2));
        });
        holds("promise 9", "`count`: number of shares, at least 1", () -> {
            due(11, CROWD.make().reduce(0, 1));
            refused(ARGUMENT, CROWD, x -> x.reduce(0, 0));
        });
        holds("promise 9", "Returns the number of free shares afterwards.", () -> {
            due(20, CROWD.make().reduce(1, 10));
            SolarLedger x = CROWD.make();
            x.join(15, 15, 0);
            due(5, x.reduce(1, 10));
        });
        holds("promise 9", "Throws `IndexOutOfBoundsException` if the subscriber does not exist", () ->
            refusedForEach(INDEX, CROWD, NOBODY, (x, s) -> x.reduce(s, 1)));
        holds("promise 9", "Throws `IllegalArgumentException` if count is less than 1", () ->
            refusedForEach(ARGUMENT, CROWD, others(0, -1, LEAST), (x, count) -> x.reduce(0, count)));
        holds("promise 9", "Throws `IllegalStateException` if the subscriber is not active", () -> {
            refused(STATE, CROWD, x -> x.reduce(2, 1));
            refused(STATE, CROWD, x -> x.reduce(3, 1));
        });
        holds("promise 9", "or would keep no share", () -> {
            refusedForEach(STATE, CROWD, others(50, 51, GREATEST), (x, count) -> x.reduce(0, count));
            due(59, CROWD.make().reduce(0, 49));
        });
    }

    private static void transfer() {
        holds("promise 10", "Transfers shares from an active subscriber, who keeps at least one, to "
                + "another one.", () -> {
            SolarLedger x = CROWD.make();
            due(60, x.transfer(0, 1, 20));
            due(30, x.shares(0));
            due(10, x.freeShares());
            due(59, x.transfer(1, 0, 29));
            due(31, x.shares(1));
            SolarLedger y = CROWD.make();
            y.reduce(0, 40);
            due(49, y.transfer(0, 1, 9));
            due(1, y.shares(0));
        });
        holds("promise 10", "`count`: number of shares, at least 1", () -> {
            due(41, CROWD.make().transfer(0, 1, 1));
            refused(ARGUMENT, CROWD, x -> x.transfer(0, 1, 0));
        });
        holds("promise 10", "`to`: number of another subscriber", () ->
            refused(ARGUMENT, CROWD, x -> x.transfer(0, 0, 1)));
        holds("promise 10", "Throws `IndexOutOfBoundsException` if a subscriber does not exist", () -> {
            refusedForEach(INDEX, CROWD, NOBODY, (x, s) -> x.transfer(s, 0, 1));
            refusedForEach(INDEX, CROWD, NOBODY, (x, s) -> x.transfer(0, s, 1));
            refusedForEach(INDEX, CROWD, NOBODY, (x, s) -> x.transfer(s, s, 1));
        });
    }

    private static void transferIsRefused() {
        holds("promise 10", "Throws `IllegalArgumentException` if both are the same", () -> {
            for (int s = 0; s < 4; s++) {
                int both = s;
                refused(ARGUMENT, CROWD, x -> x.transfer(both, both, 1));
            }
        });
        holds("promise 10", "or count is less than 1", () ->
            refusedForEach(ARGUMENT, CROWD, others(0, -1, LEAST), (x, n) -> x.transfer(0, 1, n)));
        holds("promise 10", "Throws `IllegalStateException` if one of them is not active", () -> {
            refused(STATE, CROWD, x -> x.transfer(0, 2, 1));
            refused(STATE, CROWD, x -> x.transfer(0, 3, 1));
            refused(STATE, CROWD, x -> x.transfer(2, 0, 1));
            refused(STATE, CROWD, x -> x.transfer(3, 0, 1));
            refused(STATE, CROWD, x -> x.transfer(2, 3, 1));
        });
        holds("promise 10", "the first one would keep no share", () -> {
            Maker small = () -> {
                SolarLedger x = CROWD.make();
                x.reduce(0, 40);
                return x;
            };
            due(49, small.make().transfer(0, 1, 9));
            refused(STATE, small, x -> x.transfer(0, 1, 10));
            refused(STATE, small, x -> x.transfer(0, 1, 11));
        });
        holds("promise 10", "or the second one would hold more shares than allowed", () -> {
            due(60, CROWD.make().transfer(0, 1, 20));
            refused(STATE, CROWD, x -> x.transfer(0, 1, 21));
            refused(STATE, CROWD, x -> x.transfer(1, 0, 11));
            refused(STATE, CROWD, x -> x.transfer(0, 1, GREATEST));
        });
    }

    /** Four active subscribers with a quarter of 400 millicents each; 4 waits, 5 has left. */
    private static SolarLedger four() {
        SolarLedger x = Check.garden("garden 4 3 50 100;period 1;");
        for (int i = 0; i < 4; i++) {
            x.join(1, 1, 0);
        }
        x.join(1, 1, 0);
        x.join(1, 1, 0);
        x.leave(5);
        x.generate(0, 400);
        return x;
    }

    private static void assign() {
        holds("promise 11", "Assigns a percentage of the credits of an active subscriber to another "
                + "one, in place of an earlier assignment of it.", () -> {
            SolarLedger x = four();
            x.assign(0, 1, 30);
            due(70, x.projectedCredit(0));
            due(130, x.projectedCredit(1));
            x.assign(0, 1, 40);
            due(140, x.projectedCredit(1));
            x.assign(0, 2, 5);
            due(95, x.projectedCredit(0));
            due(100, x.projectedCredit(1));
            due(105, x.projectedCredit(2));
        });
        holds("promise 11", "`percent`: 0 to 100; 0 ends the assignment", () -> {
            SolarLedger x = four();
            x.assign(0, 1, 1);
            due(101, x.projectedCredit(1));
            x.assign(0, 1, 100);
            due(0, x.projectedCredit(0));
            due(200, x.projectedCredit(1));
            x.assign(0, 1, 0);
            due(100, x.projectedCredit(0));
            due("0:active 1 0.000", Check.description(x, 0));
            // To end what is not there is no error, and a change.
            SolarLedger y = four();
            y.assign(0, 1, 0);
            due(100, y.projectedCredit(0));
            due(400, y.issued(0));
            y.undo();
            due(400, y.issued(0));
        });
        holds("promise 11", "`to`: number of another subscriber", () -> {
            refused(ARGUMENT, ShareBoundaries::four, x -> x.assign(0, 0, 10));
            refused(ARGUMENT, ShareBoundaries::four, x -> x.assign(0, 0, 0));
        });
        holds("promise 11", "Throws `IndexOutOfBoundsException` if a subscriber does not exist", () -> {
            int[] nobody = {-1, 6, 16, LEAST, GREATEST};
            refusedForEach(INDEX, ShareBoundaries::four, nobody, (x, s) -> x.assign(s, 0, 10));
            refusedForEach(INDEX, ShareBoundaries::four, nobody, (x, s) -> x.assign(0, s, 10));
            refusedForEach(INDEX, ShareBoundaries::four, nobody, (x, s) -> x.assign(0, s, 0));
        });
    }

    private static void assignIsRefused() {
        holds("promise 11", "Throws `IllegalArgumentException` if both are the same, percent is out of "
                + "range", () -> {
            refused(ARGUMENT, ShareBoundaries::four, x -> x.assign(3, 3, 10));
            refusedForEach(ARGUMENT, ShareBoundaries::four, others(-1, 101, LEAST, GREATEST),
                    (x, percent) -> x.assign(0, 1, percent));
        });
        holds("promise 11", "Throws `IllegalStateException` if one of them is not active", () -> {
            for (int percent : others(0, 10)) {
                refused(STATE, ShareBoundaries::four, x -> x.assign(0, 4, percent));
                refused(STATE, ShareBoundaries::four, x -> x.assign(0, 5, percent));
                refused(STATE, ShareBoundaries::four, x -> x.assign(4, 0, percent));
                refused(STATE, ShareBoundaries::four, x -> x.assign(5, 0, percent));
            }
        });
    }

    private static SolarLedger chain() {
        SolarLedger x = four();
        x.assign(0, 1, 10);
        x.assign(1, 2, 100);
        x.assign(2, 3, 1);
        return x;
    }

    private static void circles() {
        holds("promise 11", "or percent is greater than 0 and credits that are assigned to the second "
                + "one come back from it to the first one by assignments", () -> {
            refused(ARGUMENT, ShareBoundaries::chain, x -> x.assign(1, 0, 1));
            refused(ARGUMENT, ShareBoundaries::chain, x -> x.assign(2, 0, 100));
            refused(ARGUMENT, ShareBoundaries::chain, x -> x.assign(2, 1, 1));
            refused(ARGUMENT, ShareBoundaries::chain, x -> x.assign(3, 0, 1));
            // Two ways to the same one are no circle, and neither is a shorter way.
            SolarLedger x = chain();
            x.assign(0, 2, 10);
            x.assign(0, 3, 10);
            // 1 passes on all of its 100 to 2, who passes on 2 of 200; 0 passes on 10.
            due(112, x.projectedCredit(3));
            // With 0 percent nothing comes back.
            SolarLedger y = chain();
            y.assign(3, 0, 0);
            y.assign(2, 0, 0);
            due("2:active 1 0.000", Check.description(y, 2));
            // What was in the way is gone.
            y.assign(3, 0, 50);
            due("3:active 1 0.000 ->0:50%", Check.description(y, 3));
            // A full circle of 16.
            Maker sixteen = () -> {
                SolarLedger z = Check.garden("garden 16 3 50 100;period 1;");
                for (int i = 0; i < 16; i++) {
                    z.join(1, 1, 0);
                }
                for (int i = 0; i < 15; i++) {
                    z.assign(i, i + 1, 1);
                }
                return z;
            };
            refused(ARGUMENT, sixteen, z -> z.assign(15, 0, 1));
        });
    }
}
