/** Promises 1 to 6: a new object, append, load, errorPosition, setting and periodOf. */
public final class GardenTextTest {
    private static final String GARDEN = "garden 5 12 50 100;";

    private GardenTextTest() {
    }

    public static void main(String[] args) {
        newObject();
        appendPutsBytesInOrder();
        appendStopsAt300();
        loadReplacesTheGarden();
        loadTakesAPrefixAndEmptiesTheBuffer();
        nothingBehindThePrefixIsRead();
        hoursAreTold();
        spacesAndZeros();
        syntaxErrors();
        valueErrors();
        tooManyPeriods();
        errorPositionOfTheLatestLoad();
        settings();
        Check.finish();
    }

    private static void newObject() {
        SolarLedger x = new SolarLedger();
        int[] due = {1000, 12, 50, 100, 1, 1000};
        for (int what = 0; what < due.length; what++) {
            Check.due("new: setting " + what, due[what], x.setting(what));
        }
        for (int hour = 0; hour < 24; hour++) {
            Check.due("new: periodOf " + hour, 0, x.periodOf(hour));
        }
        x.generate(7, 1);
        Check.due("new: rate", 10, x.issued(0));
        Check.due("new: subscriberCount", 0, x.subscriberCount());
        Check.due("new: month", 0, x.month());
        Check.due("new: fund", 0, x.fund());
        Check.due("new: operatorAccount", 0, x.operatorAccount());
        Check.due("new: errorPosition", -1, x.errorPosition());
        Check.due("new: days", 1, x.passDays(1));
        Check.fails("new: load 1", Check.ARGUMENT, () -> x.load(1));
        Check.due("new: load 0", SolarLedger.SYNTAX_ERROR, x.load(0));
        Check.due("new: load 0 at", 0, x.errorPosition());
    }

    private static void appendPutsBytesInOrder() {
        SolarLedger x = new SolarLedger();
        Check.due("append", 20, x.append(0x67617264, 0x656e2031, 0x20322033, 0x20343b70, 0x6572696f));
        Check.due("append again", 40, x.append(0x6420353b, 0xffffffff, 0, 0, 0));
        Check.due("load", 1, x.load(24));
        Check.due("capacity", 1, x.setting(0));
        Check.due("expiry", 2, x.setting(1));
        Check.due("buyout", 3, x.setting(2));
        Check.due("limit", 4, x.setting(3));
    }

    private static void appendStopsAt300() {
        SolarLedger x = new SolarLedger();
        for (int length = 20; length <= 300; length += 20) {
            Check.due("append", length, x.append(0x20202020, 0x20202020, 0x20202020, 0x20202020,
                    0x20202020));
        }
        Check.fails("append beyond 300", Check.STATE, () -> x.append(0, 0, 0, 0, 0));
        Check.fails("load 301", Check.ARGUMENT, () -> x.load(301));
        Check.fails("load -1", Check.ARGUMENT, () -> x.load(-1));
        Check.fails("load least", Check.ARGUMENT, () -> x.load(Integer.MIN_VALUE));
        Check.due("load 300", SolarLedger.SYNTAX_ERROR, x.load(300));
        Check.due("load 300 at", 300, x.errorPosition());
        Check.due("append after load", 20, x.append(0, 0, 0, 0, 0));
    }

    private static void loadReplacesTheGarden() {
        SolarLedger x = new SolarLedger();
        x.join(10, 1, 0);
        Check.endMonth(x, 100);
        x.correct(0, 0, 5);
        x.passDays(3);
        x.generate(3, 8);
        x.bill(0, 4);
        x.leave(0);
        Check.due("load with error", SolarLedger.SYNTAX_ERROR, Check.load(x, GARDEN));
        Check.due("capacity stays", 1000, x.setting(0));
        Check.due("month stays", 1, x.month());
        Check.due("subscribers stay", 1, x.subscriberCount());
        Check.due("load", 2, Check.load(x, "garden 7 1 2 3;period 4;period 5;hours 6 8 1;"));
        Check.due("subscribers", 0, x.subscriberCount());
        Check.due("month", 0, x.month());
        Check.due("fund", 0, x.fund());
        Check.due("operatorAccount", 0, x.operatorAccount());
        Check.due("free", 7, x.freeShares());
        Check.due("generation", 0, x.generation(0, 0));
        Check.due("days", 30, x.passDays(30));
        x.generate(0, 10);
        x.generate(6, 100);
        Check.due("rates", 4 * 10 + 5 * 100, x.endMonth());
        Check.due("old corrections are gone", 0, x.trueUp());
        x.join(1, 1, 0);
        Check.due("new subscriber: share-days", 0, x.shareDays(0, 0));
        Check.due("new subscriber: bill", 0, x.account(0, 1));
        Check.due("new subscriber: balance", 0, x.balance(0));
    }

    private static void loadTakesAPrefixAndEmptiesTheBuffer() {
        SolarLedger x = new SolarLedger();
        String text = GARDEN + "period 7;";
        Check.append(x, (text + "hours ! ! !").getBytes());
        Check.due("prefix", 1, x.load(text.length()));
        Check.fails("empty after load", Check.ARGUMENT, () -> x.load(1));
        Check.append(x, "no garden".getBytes());
        Check.due("bad", SolarLedger.SYNTAX_ERROR, x.load(9));
        Check.fails("empty after error", Check.ARGUMENT, () -> x.load(1));
        Check.append(x, text.getBytes());
        Check.fails("too long", Check.ARGUMENT, () -> x.load(41));
        Check.due("not emptied by a refused load", 1, x.load(text.length()));
    }

    private static void nothingBehindThePrefixIsRead() {
        String text = GARDEN + "period 77;  hours 1 2 0;";
        for (int length = 0; length < text.length(); length++) {
            SolarLedger x = new SolarLedger();
            Check.append(x, text.getBytes());
            boolean whole = length >= 29 && length <= 31;
            Check.due("load " + length, whole ? 1 : SolarLedger.SYNTAX_ERROR, x.load(length));
            int errorAt = length < 6 ? 0 : length > 19 && length < 25 ? 19 : length;
            errorAt = length > 31 && length < 36 ? 31 : errorAt;
            Check.due("load " + length + " at", whole ? -1 : errorAt, x.errorPosition());
        }
    }

    private static void hoursAreTold() {
        SolarLedger x = Check.garden(GARDEN + "period 1;period 2;period 3;period 4;"
                + "hours 0 24 3;hours 5 6 1;hours 22 24 2;hours 23 24 0;");
        Check.due("periods", 4, x.setting(4));
        int[] due = {3, 3, 3, 3, 3, 1, 3, 3, 3, 3, 3, 3, 3, 3, 3, 3, 3, 3, 3, 3, 3, 3, 2, 0};
        for (int hour = 0; hour < 24; hour++) {
            Check.due("periodOf " + hour, due[hour], x.periodOf(hour));
        }
        Check.fails("periodOf -1", Check.INDEX, () -> x.periodOf(-1));
        Check.fails("periodOf 24", Check.INDEX, () -> x.periodOf(24));
        Check.due("load", 2, Check.load(x, GARDEN + "period 1;period 2;hours 3 4 1;"));
        Check.due("hours that are not told", 0, x.periodOf(5));
        Check.due("hours that are told", 1, x.periodOf(3));
    }

    private static void spacesAndZeros() {
        SolarLedger x = new SolarLedger();
        Check.due("spaces", 1, Check.load(x, "  garden  8   9 10 11 ;  period  12 ;  hours 1 2 0 ; "));
        Check.due("no spaces", 1, Check.load(x, "garden8 9 10 11;period12;hours1 2 0;"));
        Check.due("zeros", 1, Check.load(x, "garden 000000000000000000000042 01 00 0100;period 000;"));
        Check.due("zeros: capacity", 42, x.setting(0));
    }

    private static void expectError(String text, int code, int position) {
        SolarLedger x = new SolarLedger();
        Check.due("load \"" + text + "\"", code, Check.load(x, text));
        Check.due("errorPosition of \"" + text + "\"", position, x.errorPosition());
        Check.due("garden after \"" + text + "\"", 1000, x.setting(0));
        Check.fails("change by \"" + text + "\"", Check.STATE, () -> x.undo());
    }

    private static void syntaxErrors() {
        int code = SolarLedger.SYNTAX_ERROR;
        expectError("", code, 0);
        expectError("   ", code, 3);
        expectError("gard", code, 0);
        expectError(" gardens 5 1 1 1;", code, 1);
        expectError("Garden 5 1 1 1;", code, 0);
        expectError("garden", code, 6);
        expectError("garden  ", code, 8);
        expectError("garden x", code, 7);
        expectError("garden -5", code, 7);
        expectError("garden 5 1 1;", code, 12);
        expectError("garden 5 1 1 1", code, 14);
        expectError("garden 5 1 1 1 1;", code, 15);
        expectError("garden 5 1 1 1x", code, 14);
        expectError("garden\t5 1 1 1;", code, 6);
        expectError("garden 5\u00e91", code, 8);
        expectError("gardena 5 1 1 1;", code, 0);
        expectError("gardenz 5 1 1 1;", code, 0);
        expectError("garden{5 1 1 1;", code, 6);
        expectError("garden`5 1 1 1;", code, 6);
        expectError("garden:", code, 6);
        expectError("garden/", code, 6);
        expectError(GARDEN, code, 19);
        expectError(GARDEN + " ", code, 20);
        expectError(GARDEN + "hours 1 2 0;", code, 19);
        expectError(GARDEN + "periods 1;", code, 19);
        expectError(GARDEN + "period ;", code, 26);
        expectError(GARDEN + "period 1", code, 27);
        expectError(GARDEN + "period 1;;", code, 28);
        expectError(GARDEN + "period 1; garden", code, 29);
        expectError(GARDEN + "period 1;peri", code, 28);
        expectError(GARDEN + "period 1;hours", code, 33);
        expectError(GARDEN + "period 1;hours 1 2;", code, 37);
        expectError(GARDEN + "period 1;hours 1 2 0", code, 39);
        expectError(GARDEN + "period 1;hours 1 2 0;period 1;", code, 40);
        expectError(GARDEN + "period 1;period 1;period 1;period 1;hours 1 2 0;period", code, 67);
    }

    private static void valueErrors() {
        int code = SolarLedger.VALUE_ERROR;
        expectError("garden 0 1 1 1;", code, 7);
        expectError("garden 100001x", code, 7);
        expectError("garden 00000100001", code, 7);
        expectError("garden 4294967297 1 1 1;", code, 7);
        expectError("garden 18446744073709551617 1 1 1;", code, 7);
        expectError("garden 1 0", code, 9);
        expectError("garden 1 25", code, 9);
        expectError("garden 1 1 101", code, 11);
        expectError("garden 1 1 1 0", code, 13);
        expectError("garden 1 1 1 101", code, 13);
        expectError(GARDEN + "period 201;", code, 26);
        expectError(GARDEN + "period 1;period 201;", code, 35);
        expectError(GARDEN + "period 1;hours 24", code, 34);
        expectError(GARDEN + "period 1;hours 5 5 0;", code, 36);
        expectError(GARDEN + "period 1;hours 5 4 0;", code, 36);
        expectError(GARDEN + "period 1;hours 5 25 0;", code, 36);
        expectError(GARDEN + "period 1;hours 5 6 1;", code, 38);
        Check.due("greatest values", 1,
                Check.load(new SolarLedger(), "garden 100000 24 100 100;period 200;hours 23 24 0;"));
        Check.due("least values", 1,
                Check.load(new SolarLedger(), "garden 1 1 0 1;period 0;hours 0 1 0;"));
    }

    private static void tooManyPeriods() {
        String four = GARDEN + "period 1;period 2;period 3;period 4;";
        Check.due("four periods", 4, Check.load(new SolarLedger(), four));
        expectError(four + " period", SolarLedger.TOO_MANY, 56);
        expectError(four + "period 999;", SolarLedger.TOO_MANY, 55);
        expectError(four + "periods 1;", SolarLedger.SYNTAX_ERROR, 55);
    }

    private static void errorPositionOfTheLatestLoad() {
        SolarLedger x = new SolarLedger();
        Check.load(x, "garden 0");
        Check.due("after an error", 7, x.errorPosition());
        Check.fails("refused", Check.ARGUMENT, () -> x.load(1));
        Check.due("after a refused load", 7, x.errorPosition());
        x.generate(0, 1);
        x.undo();
        Check.due("after undo", 7, x.errorPosition());
        Check.load(x, GARDEN + "period 1;");
        Check.due("after a good load", -1, x.errorPosition());
    }

    private static void settings() {
        SolarLedger x = Check.garden("garden 77 3 4 5;period 6;");
        int[] due = {77, 3, 4, 5, 1, 3};
        for (int what = 0; what < due.length; what++) {
            Check.due("setting " + what, due[what], x.setting(what));
        }
        Check.fails("setting -1", Check.ARGUMENT, () -> x.setting(-1));
        Check.fails("setting 6", Check.ARGUMENT, () -> x.setting(6));
        Check.due("one share is always allowed", 1, Check.garden("garden 9 3 4 5;period 6;").setting(5));
        Check.due("the whole", 100000, Check.garden("garden 100000 3 4 100;period 6;").setting(5));
    }
}
