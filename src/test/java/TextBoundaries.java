/** Section 5, the texts: the grammar, its tokens and its errors. */
final class TextBoundaries extends Boundaries {
    private static final int SYNTAX = SolarLedger.SYNTAX_ERROR;
    private static final int VALUE = SolarLedger.VALUE_ERROR;
    private static final int TOO_MANY = SolarLedger.TOO_MANY;
    /** 15 bytes. */
    private static final String GARDEN = "garden 5 1 1 1;";
    /** 24 bytes. */
    private static final String ONE = GARDEN + "period 7;";

    private TextBoundaries() {
    }

    static void run() {
        atMost300Bytes();
        grammar();
        repetitions();
        longestSequences();
        spaces();
        numbersOfHours();
        hoursThatAreTold();
        firstError();
        syntaxErrors();
        valueErrors();
        tooMany();
    }

    private static SolarLedger loads(int periods, String text) {
        SolarLedger x = new SolarLedger();
        due(periods, Check.load(x, text));
        due(NONE, x.errorPosition());
        due(1, undoable(x));
        SolarLedger loaded = new SolarLedger();
        Check.load(loaded, text);
        return loaded;
    }

    private static void error(int code, int position, String text) {
        SolarLedger x = new SolarLedger();
        due(code, Check.load(x, text));
        due(position, x.errorPosition());
        due(1000, x.setting(0));
        due(0, undoable(x));
    }

    private static void atMost300Bytes() {
        holds("section 5", "A garden is read from a text of at most 300 bytes:", () -> {
            String spaces = " ".repeat(300 - ONE.length());
            loads(1, spaces + ONE);
            loads(1, ONE + spaces);
            // The last byte of 300 belongs to the text: an end before it is an error.
            SolarLedger x = new SolarLedger();
            Check.append(x, (spaces + ONE).getBytes());
            due(SYNTAX, x.load(299));
            due(299, x.errorPosition());
        });
    }

    private static void grammar() {
        holds("section 5", "text = \"garden\" N N N N \";\" \"period\" N \";\" { \"period\" N \";\" } "
                + "{ \"hours\" N N N \";\" } .", () -> {
            error(SYNTAX, 12, "garden 5 1 1;period 7;");
            error(SYNTAX, 15, "garden 5 1 1 1 1;period 7;");
            error(SYNTAX, 14, "garden 5 1 1 1period 7;");
            error(SYNTAX, 14, "garden 5 1 1 1,period 7;");
            error(SYNTAX, 15, GARDEN + GARDEN + "period 7;");
            error(SYNTAX, 0, "period 7;" + GARDEN);
            error(SYNTAX, 22, GARDEN + "period ;");
            error(SYNTAX, 24, GARDEN + "period 7 8;");
            error(SYNTAX, 23, GARDEN + "period 7");
            error(SYNTAX, 24, ONE + ";");
            error(SYNTAX, 33, ONE + "hours 0 1;");
            error(SYNTAX, 36, ONE + "hours 0 1 0 0;");
            error(SYNTAX, 36, ONE + "hours 0 1 0;period 7;");
            error(SYNTAX, 24, ONE + ".");
            loads(2, ONE + "period 7;hours 0 1 0;");
        });
    }

    private static void repetitions() {
        holds("section 5", "Braces mean any number of repetitions, quoted parts stand for themselves.",
                () -> {
            loads(1, ONE);
            loads(1, ONE + "hours 0 1 0;");
            loads(4, ONE + "period 7;period 7;period 7;");
            // As many as 300 bytes can hold.
            loads(1, "garden5 1 1 1;period7;" + "hours0 1 0;".repeat(25));
            error(SYNTAX, 0, "Garden 5 1 1 1;period 7;");
            error(SYNTAX, 0, "GARDEN 5 1 1 1;period 7;");
            error(SYNTAX, 15, GARDEN + "Period 7;");
            error(SYNTAX, 24, ONE + "hour 0 1 0;");
            error(SYNTAX, 14, "garden 5 1 1 1:period 7;");
            error(SYNTAX, 0, "\"garden\" 5 1 1 1;period 7;");
        });
    }

    private static void longestSequences() {
        holds("section 5", "A word is the longest possible sequence of the letters a to z, N the "
                + "longest possible sequence of digits.", () -> {
            error(SYNTAX, 0, "gardena 5 1 1 1;period 7;");
            error(SYNTAX, 0, "gardenz 5 1 1 1;period 7;");
            error(SYNTAX, 0, "gardengarden 5 1 1 1;period 7;");
            error(SYNTAX, 0, "garde 5 1 1 1;period 7;");
            error(SYNTAX, 6, "garden`5 1 1 1;period 7;");
            error(SYNTAX, 6, "garden{5 1 1 1;period 7;");
            error(SYNTAX, 6, "gardenA 5 1 1 1;period 7;");
            error(SYNTAX, 15, GARDEN + "periods 7;");
            error(SYNTAX, 24, ONE + "periodhours 7;");
            error(SYNTAX, 24, ONE + "hoursx 0 1 0;");
            loads(2, "garden5 1 1 1;period7;period7;hours0 1 1;");
            due(12345, loads(1, "garden 12345 1 1 1;period 7;").setting(0));
            error(SYNTAX, 14, "garden 5 1 1 1/period 7;");
            error(SYNTAX, 14, "garden 5 1 1 1:period 7;");
            error(SYNTAX, 8, "garden 5a1 1 1;period 7;");
            due(5, loads(1, "garden " + "0".repeat(200) + "5 1 1 1;period 7;").setting(0));
        });
    }

    private static void spaces() {
        holds("section 5", "Spaces (byte 32) may stand in front of every token and at the end of the "
                + "text.", () -> {
            loads(2, "  garden  5  1  1  1  ;  period  7  ;  period  7  ;  hours  0  1  1  ;  ");
            loads(2, "garden5 1 1 1;period7;period7;hours0 1 1;");
            error(SYNTAX, 0, "gar den 5 1 1 1;period 7;");
            error(SYNTAX, 0, " garden 5 1 1 1;period 7;".replace(' ', '\t'));
            error(SYNTAX, 24, ONE + "\n");
            error(SYNTAX, 24, ONE + "\u0000");
            error(SYNTAX, 24, ONE + "\u00a0");
            error(SYNTAX, 0, "\u001f" + ONE);
            error(SYNTAX, 0, "!" + ONE);
        });
    }

    private static void numbersOfHours() {
        holds("section 5", "of hours the first hour (0 to 23)", () -> {
            loads(1, ONE + "hours 0 1 0;");
            loads(1, ONE + "hours 23 24 0;");
            error(VALUE, 30, ONE + "hours 24 24 0;");
            error(VALUE, 30, ONE + "hours 24 25 0;");
        });
        holds("section 5", "the end (first hour + 1 to 24)", () -> {
            loads(1, ONE + "hours 7 8 0;");
            loads(1, ONE + "hours 7 24 0;");
            error(VALUE, 32, ONE + "hours 7 7 0;");
            error(VALUE, 32, ONE + "hours 7 25 0;");
            error(VALUE, 32, ONE + "hours 0 0 0;");
            // The hours of a statement do not go on behind midnight.
            error(VALUE, 33, ONE + "hours 22 2 0;");
            error(VALUE, 33, ONE + "hours 23 23 0;");
        });
        holds("section 5", "and the period (one of the periods of the text)", () -> {
            error(VALUE, 34, ONE + "hours 0 1 1;");
            loads(2, ONE + "period 7;hours 0 1 1;");
            error(VALUE, 43, ONE + "period 7;hours 0 1 2;");
            loads(4, ONE + "period 7;period 7;period 7;hours 0 1 3;");
            error(VALUE, 61, ONE + "period 7;period 7;period 7;hours 0 1 4;");
            // The periods of the present garden do not count.
            SolarLedger x = Check.garden(ONE + "period 7;period 7;");
            due(VALUE, Check.load(x, ONE + "hours 0 1 2;"));
        });
        holds("section 5", "The numbers are: of the garden capacity, expiry, buyout and limit; of a "
                + "period its rate", () -> {
            SolarLedger x = loads(2, "garden 11 12 13 14;period 15;period 16;hours 1 2 1;");
            due(11, x.setting(0));
            due(12, x.setting(1));
            due(13, x.setting(2));
            due(14, x.setting(3));
            x.generate(0, 100);
            x.generate(1, 1);
            due(1516, x.issued(0));
        });
    }

    private static void hoursThatAreTold() {
        holds("section 5", "the hours from the first one to the one before the end belong to this "
                + "period", () -> {
            SolarLedger x = Check.garden(ONE + "period 7;hours 3 5 1;");
            due(0, x.periodOf(2));
            due(1, x.periodOf(3));
            due(1, x.periodOf(4));
            due(0, x.periodOf(5));
            SolarLedger y = Check.garden(ONE + "period 7;hours 0 24 1;");
            for (int hour = 0; hour < 24; hour++) {
                due(1, y.periodOf(hour));
            }
        });
        holds("section 5", "Hours that are not told belong to period 0", () -> {
            SolarLedger x = Check.garden(ONE + "period 7;hours 0 24 1;");
            Check.load(x, ONE + "period 7;hours 5 6 1;");
            for (int hour = 0; hour < 24; hour++) {
                due(hour == 5 ? 1 : 0, x.periodOf(hour));
            }
            Check.load(x, ONE + "period 7;");
            due(0, x.periodOf(5));
        });
        holds("section 5", "the last statement for an hour counts", () -> {
            SolarLedger x = Check.garden(ONE + "period 7;period 7;"
                    + "hours 4 8 1;hours 6 9 2;hours 7 8 0;");
            int[] want = {0, 0, 0, 0, 1, 1, 2, 0, 2, 0};
            for (int hour = 0; hour < want.length; hour++) {
                due(want[hour], x.periodOf(hour));
            }
        });
    }

    private static void firstError() {
        holds("section 5", "Reading stops at the first error.", () -> {
            error(VALUE, 7, "garden 0 x");
            error(VALUE, 7, "garden 0 0 999 0;");
            error(SYNTAX, 7, "garden x 0 1 1;period 201;");
            error(VALUE, 22, GARDEN + "period 201;period 7;period 7;period 7;period 7;");
            error(VALUE, 7, "garden 0x");
        });
        holds("section 5", "If several error codes fit the same position, the first one in this list "
                + "is reported:", () ->
            // A period behind hours is not allowed here, and it is the fifth one too.
            error(SYNTAX, 63, ONE + "period 7;period 7;period 7;hours 0 1 0;period 7;"));
    }

    private static void syntaxErrors() {
        holds("section 5", "a byte or token that is not allowed here (at its first byte)", () -> {
            error(SYNTAX, 2, "  gard 5 1 1 1;");
            error(SYNTAX, 0, "5 1 1 1;");
            error(SYNTAX, 0, ";");
            error(SYNTAX, 8, "garden  five");
            error(SYNTAX, 7, "garden -5 1 1 1;");
            error(SYNTAX, 7, "garden +5 1 1 1;");
            error(SYNTAX, 8, "garden 5.0 1 1 1;");
            error(SYNTAX, 9, "garden 5 ;");
            error(SYNTAX, 16, "garden 5 1 1 1  period 7;");
            error(SYNTAX, 26, ONE + "  garden 5 1 1 1;");
            error(SYNTAX, 24, ONE + "7;");
            error(SYNTAX, 0, "\u00ff");
            error(SYNTAX, 0, "\u0080");
        });
        holds("section 5", "or an unexpected end of the text (at the length of the text)", () -> {
            error(SYNTAX, 0, "");
            error(SYNTAX, 4, "    ");
            error(SYNTAX, 6, "garden");
            error(SYNTAX, 7, "garden ");
            error(SYNTAX, 8, "garden 5");
            error(SYNTAX, 14, "garden 5 1 1 1");
            error(SYNTAX, 15, GARDEN);
            error(SYNTAX, 17, GARDEN + "  ");
            error(SYNTAX, 21, GARDEN + "period");
            error(SYNTAX, 23, GARDEN + "period 7");
            error(SYNTAX, 29, ONE + "hours");
            error(SYNTAX, 31, ONE + "hours 0");
            error(SYNTAX, 35, ONE + "hours 0 1 0");
            error(SYNTAX, 36, ONE + "hours 0 1 0 ");
            // The text ends at the length that load is told, though the buffer is longer.
            SolarLedger x = new SolarLedger();
            Check.append(x, ONE.getBytes());
            due(SYNTAX, x.load(8));
            due(8, x.errorPosition());
            // So do numbers: the second digit stands behind the end.
            SolarLedger y = new SolarLedger();
            Check.append(y, "garden 55 1 1 1;period 7;".getBytes());
            due(SYNTAX, y.load(8));
            due(8, y.errorPosition());
            error(SYNTAX, 300, " ".repeat(292) + "garden 5");
        });
        holds("section 5", "SYNTAX_ERROR: a byte or token", () -> {
            // A word that is cut off by the end is a token that is not allowed.
            error(SYNTAX, 0, "garde");
            error(SYNTAX, 15, GARDEN + "perio");
            error(SYNTAX, 24, ONE + "hour");
        });
    }

    private static void valueErrors() {
        holds("section 5", "VALUE_ERROR: a number that is out of its range (at its first digit).", () -> {
            error(VALUE, 9, "garden   0 1 1 1;");
            error(VALUE, 7, "garden 000000 1 1 1;");
            error(VALUE, 7, "garden 000100001 1 1 1;");
            error(VALUE, 16, "garden 5 1 1    101;");
            // Numbers that would be small again if they wrapped around.
            error(VALUE, 7, "garden 2147483653 1 1 1;period 7;");
            error(VALUE, 7, "garden 4294967301 1 1 1;period 7;");
            error(VALUE, 7, "garden 18446744073709551621 1 1 1;period 7;");
            error(VALUE, 7, "garden 1" + "0".repeat(64) + "5 1 1 1;period 7;");
            error(VALUE, 7, "garden " + "9".repeat(290));
            error(VALUE, 22, GARDEN + "period 4294967296;");
            error(VALUE, 34, ONE + "hours 0 1 4294967296;");
        });
    }

    private static void tooMany() {
        holds("section 5", "TOO_MANY: the word of a fifth period.", () -> {
            String four = ONE + "period 7;period 7;period 7;";
            loads(4, four);
            error(TOO_MANY, 51, four + "period 7;");
            error(TOO_MANY, 53, four + "  period 7;");
            error(TOO_MANY, 51, four + "period");
            error(TOO_MANY, 51, four + "period 201;");
            error(TOO_MANY, 51, four + "period x");
            error(SYNTAX, 51, four + "periods 7;");
            error(SYNTAX, 51, four + "perio");
        });
    }
}
