/** Section 2 and promises 7 and 12 to 17: joining, leaving and the waiting list. */
final class SubscriberBoundaries extends Boundaries {
    private static final int[] NOBODY = {-1, 4, 16, LEAST, GREATEST};

    private SubscriberBoundaries() {
    }

    static void run() {
        statesAndShares();
        waitingList();
        goingThroughTheList();
        join();
        leave();
        counting();
        lookingAtOne();
    }

    /** 0 and 1 are active with 50 and 40 of 100 shares, 2 waits, 3 has left; 10 shares are free. */
    static SolarLedger crowd() {
        SolarLedger x = Check.garden("garden 100 3 50 60;period 10;");
        x.join(50, 1, 0);
        x.join(40, 1, 0);
        x.join(60, 60, 3);
        x.join(5, 5, 0);
        x.leave(3);
        return x;
    }

    private static SolarLedger sixteen() {
        SolarLedger x = Check.garden("garden 100 3 50 60;period 10;");
        for (int i = 0; i < 16; i++) {
            x.join(1, 1, 0);
        }
        return x;
    }

    private static SolarLedger hundred() {
        return Check.garden("garden 100 3 50 60;period 10;");
    }

    private static void statesAndShares() {
        holds("section 2", "There are at most 16 subscribers, numbered from 0.", () -> {
            SolarLedger x = hundred();
            for (int i = 0; i < 16; i++) {
                due(i, x.join(1, 1, 0));
            }
            refused(STATE, SubscriberBoundaries::sixteen, y -> y.join(1, 1, 0));
            due(1, x.state(15));
            refused(INDEX, SubscriberBoundaries::sixteen, y -> y.state(16));
        });
        holds("section 2", "A subscriber waits, is active, or has left.", () -> {
            due(0, crowd().state(2));
            due(1, crowd().state(0));
            due(2, crowd().state(3));
        });
        holds("section 2", "Only active ones hold shares, at least one.", () -> {
            due(0, crowd().shares(2));
            due(0, crowd().shares(3));
            refused(STATE, SubscriberBoundaries::crowd, x -> x.reduce(0, 50));
            refused(STATE, SubscriberBoundaries::crowd, x -> x.transfer(0, 1, 50));
            SolarLedger x = crowd();
            x.reduce(0, 49);
            due(1, x.shares(0));
        });
        holds("section 2", "A subscriber has a number of wanted shares, a minimum, and a priority.",
                () -> {
            SolarLedger x = crowd();
            x.join(30, 20, 9);
            due(0, x.waitingPlace(4));
            due(19, x.reduce(0, 9));
            due(0, x.reduce(0, 1));
            due(20, x.shares(4));
            SolarLedger y = crowd();
            y.join(30, 20, 9);
            due(10, y.reduce(0, 30));
            due(30, y.shares(4));
        });
        holds("section 2", "The shares that nobody holds are free; they belong to the operator.", () -> {
            SolarLedger x = crowd();
            due(10, x.freeShares());
            x.passDays(1);
            due(10, x.shareDays(0, NONE));
            SolarLedger y = hundred();
            due(100, y.freeShares());
            y.join(60, 60, 0);
            y.join(40, 40, 0);
            due(0, y.freeShares());
            y.passDays(1);
            due(0, y.shareDays(0, NONE));
        });
        holds("section 2", "A subscriber may assign a percentage of its credits to another one (only "
                + "one at a time).", () -> {
            SolarLedger x = hundred();
            x.join(10, 10, 0);
            x.join(10, 10, 0);
            x.join(10, 10, 0);
            x.assign(0, 1, 50);
            x.assign(0, 2, 20);
            x.generate(0, 100);
            due(80, x.projectedCredit(0));
            due(100, x.projectedCredit(1));
            due(120, x.projectedCredit(2));
        });
    }

    private static void waitingList() {
        holds("section 2", "The waiting list contains the subscribers who wait, by descending "
                + "priority, equal ones by their numbers.", () -> {
            SolarLedger x = hundred();
            x.join(60, 60, 0);
            x.join(40, 40, 0);
            int[] priorities = {0, 9, 5, 9, 0, 5};
            int[] places = {4, 0, 2, 1, 5, 3};
            for (int priority : priorities) {
                x.join(1, 1, priority);
            }
            for (int i = 0; i < places.length; i++) {
                due(places[i], x.waitingPlace(2 + i));
            }
            due(NONE, x.waitingPlace(0));
            // The order in which the shares are given is that of the places.
            x.reduce(0, 1);
            due(1, x.state(3));
            x.reduce(0, 1);
            due(1, x.state(5));
            x.reduce(0, 2);
            due(1, x.state(4));
            due(1, x.state(7));
            due(0, x.state(2));
            due(0, x.waitingPlace(2));
            due(1, x.waitingPlace(6));
            // A list of all 16, of whom nobody can get the shares that it accepts.
            SolarLedger y = hundred();
            for (int i = 0; i < 16; i++) {
                y.join(61, 61, 9 - i % 2);
            }
            for (int i = 0; i < 16; i++) {
                due(i % 2 == 0 ? i / 2 : 8 + i / 2, y.waitingPlace(i));
            }
        });
    }

    private static void goingThroughTheList() {
        holds("section 2", "let n be the least of the wanted shares, the shares that are free at this "
                + "time, and the greatest number of shares allowed", () -> {
            SolarLedger x = hundred();
            x.join(100, 1, 0);
            due(60, x.shares(0));
            x.join(30, 1, 0);
            due(30, x.shares(1));
            x.join(30, 1, 0);
            due(10, x.shares(2));
            due(0, x.freeShares());
            // The first one of the list takes shares that are not free any more for the second one.
            x.join(8, 1, 0);
            x.join(8, 1, 0);
            due(0, x.reduce(0, 12));
            due(8, x.shares(3));
            due(4, x.shares(4));
        });
        holds("section 2", "if n is at least the minimum, the subscriber becomes active and gets n "
                + "shares, otherwise it goes on waiting", () -> {
            SolarLedger x = hundred();
            x.join(61, 61, 0);
            due(0, x.state(0));
            x.join(60, 60, 0);
            due(1, x.state(1));
            due(60, x.shares(1));
            x.join(60, 40, 0);
            due(40, x.shares(2));
            x.join(60, 1, 0);
            due(0, x.state(3));
            due(0, x.shares(3));
            // Who is passed over does not keep those behind it from their shares.
            x.reduce(1, 1);
            due(0, x.state(0));
            due(1, x.shares(3));
        });
    }

    private static void join() {
        holds("promise 7", "`wanted`: number of wanted shares, 1 to the capacity", () -> {
            refusedForEach(ARGUMENT, SubscriberBoundaries::hundred, others(0, -1, 101, LEAST, GREATEST),
                    (x, wanted) -> x.join(wanted, 1, 0));
            due(0, hundred().join(1, 1, 0));
            due(0, hundred().join(100, 1, 0));
            SolarLedger smallest = Check.garden("garden 1 1 1 1;period 1;");
            due(0, smallest.join(1, 1, 0));
            due(1, smallest.shares(0));
        });
        holds("promise 7", "`minimum`: the least number of shares that it accepts, 1 to wanted", () -> {
            refusedForEach(ARGUMENT, SubscriberBoundaries::hundred, others(0, -1, 6, LEAST, GREATEST),
                    (x, minimum) -> x.join(5, minimum, 0));
            due(0, hundred().join(5, 1, 0));
            due(0, hundred().join(5, 5, 0));
        });
        holds("promise 7", "`priority`: 0 to 9", () -> {
            refusedForEach(ARGUMENT, SubscriberBoundaries::hundred, others(-1, 10, LEAST, GREATEST),
                    (x, priority) -> x.join(5, 5, priority));
            due(0, hundred().join(5, 5, 0));
            due(0, hundred().join(5, 5, 9));
        });
        holds("promise 7", "Adds a subscriber, who waits; then the waiting list is gone through.", () -> {
            SolarLedger x = crowd();
            due(4, x.join(10, 10, 0));
            due(1, x.state(4));
            due(0, x.state(2));
            due(5, x.join(1, 1, 9));
            due(0, x.state(5));
            due(0, x.waitingPlace(5));
            due(1, x.waitingPlace(2));
        });
        holds("promise 7", "Throws `IllegalArgumentException` if a parameter is out of range", () -> {
            refused(ARGUMENT, SubscriberBoundaries::crowd, x -> x.join(101, 1, 0));
            refused(ARGUMENT, SubscriberBoundaries::crowd, x -> x.join(5, 6, 0));
            refused(ARGUMENT, SubscriberBoundaries::crowd, x -> x.join(5, 5, 10));
            refused(ARGUMENT, SubscriberBoundaries::crowd, x -> x.join(0, 0, -1));
        });
        holds("promise 7", "Throws `IllegalStateException` if there are already 16 subscribers", () -> {
            refused(STATE, SubscriberBoundaries::sixteen, x -> x.join(1, 1, 0));
            // Those who have left, and those who wait, count too.
            refused(STATE, () -> {
                SolarLedger x = sixteen();
                x.leave(7);
                return x;
            }, x -> x.join(1, 1, 0));
            refused(STATE, () -> {
                SolarLedger x = hundred();
                for (int i = 0; i < 16; i++) {
                    x.join(61, 61, 0);
                }
                return x;
            }, x -> x.join(1, 1, 0));
            SolarLedger undone = sixteen();
            undone.undo();
            due(15, undone.join(1, 1, 0));
        });
    }

    private static void leave() {
        holds("promise 12", "one that waits leaves the waiting list", () -> {
            SolarLedger x = crowd();
            x.join(60, 60, 2);
            due(1, x.waitingPlace(4));
            due(0, x.leave(2));
            due(2, x.state(2));
            due(NONE, x.waitingPlace(2));
            due(0, x.waitingPlace(4));
            due(0, x.account(2, 3));
            due(10, x.freeShares());
            // It gets no shares any more.
            x.reduce(0, 49);
            due(59, x.freeShares());
            x.reduce(1, 1);
            due(0, x.shares(2));
            due(60, x.shares(4));
        });
        holds("promise 12", "an active one as told in section 4", () -> {
            SolarLedger x = Check.garden("garden 2 3 50 100;period 1;");
            x.join(1, 1, 0);
            Check.endMonth(x, 14);
            due(3, x.leave(0));
            due(4, x.fund());
        });
        holds("promise 12", "Throws `IndexOutOfBoundsException` if the subscriber does not exist", () ->
            refusedForEach(INDEX, SubscriberBoundaries::crowd, NOBODY, (x, s) -> x.leave(s)));
        holds("promise 12", "Throws `IllegalStateException` if it has left already", () -> {
            refused(STATE, SubscriberBoundaries::crowd, x -> x.leave(3));
            refused(STATE, () -> {
                SolarLedger x = crowd();
                x.leave(2);
                return x;
            }, x -> x.leave(2));
        });
    }

    private static void counting() {
        holds("promise 13", "Returns 0 to 16.", () -> {
            due(0, new SolarLedger().subscriberCount());
            due(16, sixteen().subscriberCount());
        });
        holds("promise 13", "Returns the number of subscribers, those who have left included.", () -> {
            due(4, crowd().subscriberCount());
            SolarLedger x = crowd();
            x.leave(0);
            x.leave(1);
            x.leave(2);
            due(4, x.subscriberCount());
        });
        holds("promise 16", "Returns 0 to the capacity.", () -> {
            due(1000, new SolarLedger().freeShares());
            due(100_000, Check.garden("garden 100000 1 1 100;period 1;").freeShares());
            SolarLedger x = Check.garden("garden 100000 1 1 100;period 1;");
            x.join(100_000, 100_000, 0);
            due(0, x.freeShares());
            x.leave(0);
            due(100_000, x.freeShares());
        });
    }

    private static void lookingAtOne() {
        holds("promise 14", "Returns 0: it waits; 1: it is active; 2: it has left.", () -> {
            int[] states = {1, 1, 0, 2};
            for (int s = 0; s < states.length; s++) {
                due(states[s], crowd().state(s));
            }
        });
        holds("promise 14", "Throws `IndexOutOfBoundsException` if the subscriber does not exist", () -> {
            refusedForEach(INDEX, SubscriberBoundaries::crowd, NOBODY, (x, s) -> x.state(s));
            refused(INDEX, SolarLedger::new, x -> x.state(0));
        });
        holds("promise 15", "Returns the number of shares, 0 if it is not active.", () -> {
            int[] shares = {50, 40, 0, 0};
            for (int s = 0; s < shares.length; s++) {
                due(shares[s], crowd().shares(s));
            }
        });
        holds("promise 15", "Throws `IndexOutOfBoundsException` if the subscriber does not exist", () -> {
            refusedForEach(INDEX, SubscriberBoundaries::crowd, NOBODY, (x, s) -> x.shares(s));
            refused(INDEX, SolarLedger::new, x -> x.shares(0));
        });
        holds("promise 17", "Returns the place, from 0; NONE if it does not wait.", () -> {
            int[] places = {-1, -1, 0, -1};
            for (int s = 0; s < places.length; s++) {
                due(places[s], crowd().waitingPlace(s));
            }
        });
        holds("promise 17", "Throws `IndexOutOfBoundsException` if the subscriber does not exist", () -> {
            refusedForEach(INDEX, SubscriberBoundaries::crowd, NOBODY, (x, s) -> x.waitingPlace(s));
            refused(INDEX, SolarLedger::new, x -> x.waitingPlace(0));
        });
    }
}
