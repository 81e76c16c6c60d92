/** Section 1 and promises 1 to 6: the garden, its settings, the text buffer and load. */
final class GardenBoundaries extends Boundaries {
    private static final int SPACES = 0x20202020;
    private static final String PERIOD = "period 1;";

    private GardenBoundaries() {
    }

    static void run() {
        rangesOfTheGarden();
        greatestHolding();
        periodsAndRates();
        constants();
        newObject();
        append();
        load();
        lengthOfLoad();
        errorPosition();
        setting();
        periodOf();
    }

    private static SolarLedger fresh() {
        return new SolarLedger();
    }

    /** Month 1: 0 owes something, 1 has lots and an assignment, 2 has left; a correction waits. */
    private static SolarLedger used() {
        SolarLedger x = Check.garden("garden 10 1 50 100;period 1;period 2;hours 3 9 1;");
        x.join(5, 5, 0);
        x.join(2, 2, 0);
        x.join(1, 1, 0);
        x.bill(0, 70);
        Check.endMonth(x, 100);
        x.leave(2);
        x.correct(0, 0, 80);
        x.trueUp();
        x.correct(0, 0, 70);
        x.assign(1, 0, 25);
        x.bill(0, 3);
        x.generate(3, 9);
        x.passDays(7);
        return x;
    }

    private static void loadsAs(int what, long value, String text) {
        SolarLedger x = new SolarLedger();
        due(1, Check.load(x, text));
        due(NONE, x.errorPosition());
        due(value, x.setting(what));
    }

    private static void isOutOfRange(int position, String text) {
        SolarLedger x = new SolarLedger();
        due(SolarLedger.VALUE_ERROR, Check.load(x, text));
        due(position, x.errorPosition());
        due(1000, x.setting(0));
    }

    private static void rangesOfTheGarden() {
        holds("section 1", "a capacity in shares (1 to 100,000)", () -> {
            isOutOfRange(7, "garden 0 1 1 1;" + PERIOD);
            loadsAs(0, 1, "garden 1 1 1 1;" + PERIOD);
            loadsAs(0, 100_000, "garden 100000 1 1 1;" + PERIOD);
            isOutOfRange(7, "garden 100001 1 1 1;" + PERIOD);
        });
        holds("section 1", "an expiry in months (1 to 24)", () -> {
            isOutOfRange(9, "garden 5 0 1 1;" + PERIOD);
            loadsAs(1, 1, "garden 5 1 1 1;" + PERIOD);
            loadsAs(1, 24, "garden 5 24 1 1;" + PERIOD);
            isOutOfRange(9, "garden 5 25 1 1;" + PERIOD);
        });
        holds("section 1", "a buyout percentage (0 to 100)", () -> {
            loadsAs(2, 0, "garden 5 1 0 1;" + PERIOD);
            loadsAs(2, 100, "garden 5 1 100 1;" + PERIOD);
            isOutOfRange(11, "garden 5 1 101 1;" + PERIOD);
        });
        holds("section 1", "a limit (1 to 100 percent)", () -> {
            isOutOfRange(13, "garden 5 1 1 0;" + PERIOD);
            loadsAs(3, 1, "garden 5 1 1 1;" + PERIOD);
            loadsAs(3, 100, "garden 5 1 1 100;" + PERIOD);
            isOutOfRange(13, "garden 5 1 1 101;" + PERIOD);
        });
    }

    private static void greatestHolding() {
        holds("section 1", "No subscriber may hold more than capacity * limit / 100 shares, rounded "
                + "down", () -> {
            Maker maker = () -> {
                SolarLedger x = Check.garden("garden 199 1 1 50;" + PERIOD);
                x.join(199, 1, 0);
                return x;
            };
            due(99, maker.make().setting(5));
            due(99, maker.make().shares(0));
            refused(STATE, maker, x -> x.more(0, 1));
            due(100, Check.garden("garden 200 1 1 50;" + PERIOD).setting(5));
            due(100_000, Check.garden("garden 100000 1 1 100;" + PERIOD).setting(5));
            due(99_000, Check.garden("garden 100000 1 1 99;" + PERIOD).setting(5));
        });
        holds("section 1", "but one share is always allowed", () -> {
            due(1, Check.garden("garden 1 1 1 1;" + PERIOD).setting(5));
            due(1, Check.garden("garden 99 1 1 1;" + PERIOD).setting(5));
            due(1, Check.garden("garden 100 1 1 1;" + PERIOD).setting(5));
            due(1, Check.garden("garden 199 1 1 1;" + PERIOD).setting(5));
            due(2, Check.garden("garden 200 1 1 1;" + PERIOD).setting(5));
            SolarLedger x = Check.garden("garden 99 1 1 1;" + PERIOD);
            x.join(99, 1, 0);
            due(1, x.shares(0));
        });
    }

    private static void periodsAndRates() {
        holds("section 1", "There are 1 to 4 periods, numbered from 0", () -> {
            Maker four = () -> Check.garden("garden 5 1 1 1;" + PERIOD + PERIOD + PERIOD + PERIOD);
            due(SolarLedger.SYNTAX_ERROR, Check.load(fresh(), "garden 5 1 1 1;"));
            due(1, Check.garden("garden 5 1 1 1;" + PERIOD).setting(4));
            due(4, four.make().setting(4));
            due(0, four.make().generation(0, 0));
            due(0, four.make().generation(0, 3));
            refusedForEach(INDEX, four, others(-1, 4, LEAST, GREATEST), (x, p) -> x.generation(0, p));
            due(SolarLedger.TOO_MANY, Check.load(fresh(),
                    "garden 5 1 1 1;" + PERIOD + PERIOD + PERIOD + PERIOD + PERIOD));
        });
        holds("section 1", "each with a rate (0 to 200 cents per kWh)", () -> {
            isOutOfRange(22, "garden 5 1 1 1;period 201;");
            for (int rate : others(0, 1, 199, 200)) {
                SolarLedger x = Check.garden("garden 5 1 1 1;period " + rate + ";");
                x.generate(0, 3);
                due(3 * rate, x.issued(0));
            }
        });
        holds("section 1", "each hour of the day (0 to 23) belongs to a period", () -> {
            Maker maker = () -> Check.garden("garden 5 1 1 1;" + PERIOD + PERIOD + "hours 0 24 1;");
            due(1, maker.make().periodOf(0));
            due(1, maker.make().periodOf(23));
            refusedForEach(INDEX, maker, others(-1, 24), (x, hour) -> x.generate(hour, 1));
        });
        holds("section 1", "At first the capacity is 1000, the expiry 12, the buyout 50, the limit "
                + "100, and there is one period with the rate 10, to which all hours belong.", () -> {
            SolarLedger x = new SolarLedger();
            due(1000, x.setting(0));
            due(12, x.setting(1));
            due(50, x.setting(2));
            due(100, x.setting(3));
            due(1, x.setting(4));
            for (int hour = 0; hour < 24; hour++) {
                due(0, x.periodOf(hour));
                due(hour + 1, x.generate(hour, 1));
            }
            due(240, x.issued(0));
        });
        holds("section 1", "one Wh at a rate of r cents per kWh is worth exactly r millicents", () -> {
            SolarLedger x = Check.garden("garden 1 1 1 1;period 7;");
            x.join(1, 1, 0);
            Check.endMonth(x, 1);
            due(7, x.balance(0));
            due("0:active 1 0.007", Check.description(x, 0));
        });
    }

    private static void constants() {
        holds("constants", "The value -1: there is none.", () -> due(-1, SolarLedger.NONE));
        holds("constants", "`SYNTAX_ERROR = -2`", () -> due(-2, SolarLedger.SYNTAX_ERROR));
        holds("constants", "`VALUE_ERROR = -3`", () -> due(-3, SolarLedger.VALUE_ERROR));
        holds("constants", "`TOO_MANY = -4`", () -> due(-4, SolarLedger.TOO_MANY));
    }

    private static void newObject() {
        holds("promise 1", "Creates a garden without subscribers at the beginning of month 0, and an "
                + "empty text buffer.", () -> {
            due(0, fresh().subscriberCount());
            due(1000, fresh().freeShares());
            due(0, fresh().month());
            due(30, fresh().passDays(30));
            due(0, fresh().fund());
            due(0, fresh().operatorAccount());
            due(0, undoable(fresh()));
            due(20, fresh().append(0, 0, 0, 0, 0));
            refused(ARGUMENT, GardenBoundaries::fresh, x -> x.load(1));
            due(SolarLedger.SYNTAX_ERROR, fresh().load(0));
        });
    }

    private static void append() {
        holds("promise 2", "Appends 20 bytes to the text buffer: the four bytes of each argument in "
                + "order, the most significant byte first.", () -> {
            SolarLedger x = new SolarLedger();
            due(20, x.append(0x67617264, 0x656e2031, 0x20322033, 0x20343b70, 0x6572696f));
            due(40, x.append(0x6420353b, SPACES, SPACES, SPACES, SPACES));
            due(1, x.load(40));
            due(1, x.setting(0));
            due(2, x.setting(1));
            due(3, x.setting(2));
            due(4, x.setting(3));
            SolarLedger y = new SolarLedger();
            y.append(SPACES, SPACES, SPACES, SPACES, 0x202020ff);
            due(SolarLedger.SYNTAX_ERROR, y.load(20));
            due(19, y.errorPosition());
            y.append(0x80000000, -1, LEAST, GREATEST, 0);
            due(SolarLedger.SYNTAX_ERROR, y.load(20));
            due(0, y.errorPosition());
        });
        holds("promise 2", "Throws `IllegalStateException` if the length would exceed 300", () -> {
            SolarLedger x = new SolarLedger();
            for (int length = 20; length <= 300; length += 20) {
                due(length, x.append(SPACES, SPACES, SPACES, SPACES, SPACES));
            }
            refused(STATE, GardenBoundaries::full, y -> y.append(0, 0, 0, 0, 0));
            refused(STATE, GardenBoundaries::full, y -> y.append(SPACES, -1, -1, -1, GREATEST));
            SolarLedger y = full();
            y.load(0);
            due(20, y.append(0, 0, 0, 0, 0));
        });
    }

    private static SolarLedger full() {
        SolarLedger x = new SolarLedger();
        for (int i = 0; i < 15; i++) {
            x.append(SPACES, SPACES, SPACES, SPACES, SPACES);
        }
        return x;
    }

    private static void load() {
        holds("promise 3", "If the text has no error, its garden replaces the present one; there are "
                + "no subscribers then, it is the beginning of month 0, and all accounts are 0.", () -> {
            SolarLedger x = used();
            due(1, Check.load(x, "garden 3 4 5 6;period 7;"));
            due(3, x.setting(0));
            due(4, x.setting(1));
            due(5, x.setting(2));
            due(6, x.setting(3));
            due(0, x.periodOf(3));
            due(0, x.subscriberCount());
            due(3, x.freeShares());
            due(0, x.month());
            due(0, x.generation(0, 0));
            due(0, x.shareDays(0, NONE));
            due(0, x.fund());
            due(0, x.operatorAccount());
            due(30, x.passDays(30));
            due(0, x.endMonth());
            due(0, x.generation(1, 0));
            due(0, x.trueUp());
        });
        holds("promise 3", "there are no subscribers then", () -> {
            SolarLedger x = used();
            due(10, x.account(0, 0));
            due(16, x.balance(1));
            due(1, Check.load(x, "garden 10 4 50 20;period 1;"));
            // The new subscribers have nothing of the old ones with their numbers.
            due(0, x.join(3, 3, 0));
            due(1, x.join(2, 2, 0));
            due(0, x.state(0));
            due(0, x.shares(0));
            due("1:active 2 0.000", Check.description(x, 1));
            for (int s = 0; s < 2; s++) {
                for (int what = 0; what < 6; what++) {
                    due(0, x.account(s, what));
                }
                due(0, x.balance(s));
                due(0, x.shareDays(0, s));
            }
        });
        holds("promise 3", "In case of an error the present garden stays.", () -> {
            for (String text : new String[] {"", "garden 3 4 5 6;", "garden 3 4 5 6;period 201;",
                "garden 3 4 5 6;period 7;period 8;hours 0 24 2;"}) {
                SolarLedger x = used();
                String before = Look.books(x);
                if (Check.load(x, text) >= 0) {
                    Check.fail("no error in " + text);
                }
                due(before, Look.books(x));
            }
        });
        holds("promise 3", "The buffer is empty afterwards in both cases.", () -> {
            SolarLedger x = new SolarLedger();
            Check.load(x, "garden 3 4 5 6;period 7;");
            due(20, x.append(SPACES, SPACES, SPACES, SPACES, SPACES));
            due(SolarLedger.SYNTAX_ERROR, x.load(20));
            Check.fails("load 1 of an empty buffer", ARGUMENT, () -> x.load(1));
            due(20, x.append(0, 0, 0, 0, 0));
        });
        holds("promise 3", "Returns the number of periods, or the error code.", () -> {
            String text = "garden 3 4 5 6;";
            for (int periods = 1; periods <= 4; periods++) {
                text += PERIOD;
                due(periods, Check.load(fresh(), text));
            }
            due(SolarLedger.TOO_MANY, Check.load(fresh(), text + PERIOD));
            due(SolarLedger.SYNTAX_ERROR, Check.load(fresh(), text + ";"));
            due(SolarLedger.VALUE_ERROR, Check.load(fresh(), text + "hours 0 24 4;"));
        });
    }

    private static void lengthOfLoad() {
        String text = "garden 3 4 5 6;period 7;                ";
        Maker forty = () -> {
            SolarLedger x = new SolarLedger();
            Check.append(x, text.getBytes());
            return x;
        };
        holds("promise 3", "`length`: number of bytes, 0 to the length of the buffer", () -> {
            SolarLedger x = forty.make();
            due(SolarLedger.SYNTAX_ERROR, x.load(0));
            due(0, x.errorPosition());
            due(1, forty.make().load(40));
            due(1, forty.make().load(24));
            SolarLedger y = forty.make();
            due(SolarLedger.SYNTAX_ERROR, y.load(23));
            due(23, y.errorPosition());
        });
        holds("promise 3", "Throws `IllegalArgumentException` if length is out of range", () ->
            refusedForEach(ARGUMENT, forty, others(-1, 41, 300, LEAST, GREATEST), SolarLedger::load));
    }

    private static void errorPosition() {
        holds("promise 4", "Returns the position; NONE if it found no error or if there was no call "
                + "that did not throw.", () -> {
            SolarLedger x = new SolarLedger();
            due(-1, x.errorPosition());
            Check.fails("load 1", ARGUMENT, () -> x.load(1));
            due(-1, x.errorPosition());
            x.load(0);
            due(0, x.errorPosition());
            Check.load(x, "garden 0");
            due(7, x.errorPosition());
            Check.fails("load 1", ARGUMENT, () -> x.load(1));
            due(7, x.errorPosition());
            Check.load(x, "garden 3 4 5 6;period 7;");
            due(-1, x.errorPosition());
            Check.append(x, " ".repeat(300).getBytes());
            x.load(300);
            due(300, x.errorPosition());
        });
    }

    private static void setting() {
        Maker maker = () -> Check.garden("garden 77 3 4 5;period 6;period 7;");
        holds("promise 5", "`what`: 0: capacity; 1: expiry; 2: buyout; 3: limit; 4: number of periods; "
                + "5: greatest number of shares that a subscriber may hold", () -> {
            int[] want = {77, 3, 4, 5, 2, 3};
            for (int what = 0; what < want.length; what++) {
                due(want[what], maker.make().setting(what));
            }
        });
        holds("promise 5", "Throws `IllegalArgumentException` for any other what", () ->
            refusedForEach(ARGUMENT, maker, others(-1, 6, LEAST, GREATEST), SolarLedger::setting));
    }

    private static void periodOf() {
        Maker maker = () -> Check.garden("garden 77 3 4 5;period 6;period 7;hours 0 1 1;hours 23 24 1;");
        holds("promise 6", "`hour`: 0 to 23", () -> {
            due(1, maker.make().periodOf(0));
            due(0, maker.make().periodOf(1));
            due(0, maker.make().periodOf(22));
            due(1, maker.make().periodOf(23));
        });
        holds("promise 6", "Throws `IndexOutOfBoundsException` if the hour does not exist", () ->
            refusedForEach(INDEX, maker, others(-1, 24, LEAST, GREATEST), SolarLedger::periodOf));
    }
}
