import java.nio.charset.StandardCharsets;

/** Compares answers with those that are due, prints each one that differs, and counts them. */
final class Check {
    interface Call {
        long answer();
    }

    interface Action {
        void run();
    }

    static final Class<IllegalArgumentException> ARGUMENT = IllegalArgumentException.class;
    static final Class<IllegalStateException> STATE = IllegalStateException.class;
    static final Class<IndexOutOfBoundsException> INDEX = IndexOutOfBoundsException.class;

    private static int wrong = 0;

    private Check() {
    }

    static void due(String what, long want, long got) {
        if (got != want) {
            fail(what + " answered " + got + ", due is " + want);
        }
    }

    static void due(String what, String want, String got) {
        if (!got.equals(want)) {
            fail(what + " answered \"" + got + "\", due is \"" + want + "\"");
        }
    }

    static void fails(String what, Class<? extends RuntimeException> want, Action call) {
        try {
            call.run();
        } catch (RuntimeException e) {
            if (e.getClass() != want) {
                fail(what + " threw " + e.getClass() + ", due is " + want);
            }
            return;
        }
        fail(what + " threw nothing, due is " + want);
    }

    static void fail(String message) {
        wrong++;
        System.out.println(message);
    }

    /** Ends a test: with exit code 1 if an answer was not the one that is due. */
    static void finish() {
        System.out.println(wrong == 0 ? "all answers are as due" : wrong + " answers are wrong");
        System.exit(wrong == 0 ? 0 : 1);
    }

    /** Appends a text, filled up with spaces to a multiple of 20 bytes. */
    static void append(SolarLedger ledger, byte[] text) {
        for (int i = 0; i < text.length; i += 20) {
            ledger.append(word(text, i), word(text, i + 4), word(text, i + 8), word(text, i + 12),
                    word(text, i + 16));
        }
    }

    private static int word(byte[] text, int start) {
        int word = 0;
        for (int i = start; i < start + 4; i++) {
            word = word << 8 | (i < text.length ? text[i] & 255 : ' ');
        }
        return word;
    }

    static int load(SolarLedger ledger, String text) {
        byte[] bytes = text.getBytes(StandardCharsets.ISO_8859_1);
        append(ledger, bytes);
        return ledger.load(bytes.length);
    }

    static SolarLedger garden(String text) {
        SolarLedger ledger = new SolarLedger();
        if (load(ledger, text) < 1) {
            fail("no garden: " + text);
        }
        return ledger;
    }

    static String description(SolarLedger ledger, int subscriber) {
        int length = ledger.describe(subscriber);
        StringBuilder text = new StringBuilder();
        for (int i = 0; i < length; i++) {
            text.append((char) ledger.describedByte(i));
        }
        return text.toString();
    }

    static void endMonth(SolarLedger ledger, int wattHours) {
        if (wattHours > 0) {
            ledger.generate(0, wattHours);
        }
        ledger.passDays(30);
        ledger.endMonth();
    }
}
