/**
 * What can be seen of a ledger, as texts that can be compared. A ledger with few subscribers stays
 * below the document's 512 calls, whatever of this is asked for.
 */
final class Look {
    private static final int SPACES = 0x20202020;

    private Look() {
    }

    /** What undo brings back. */
    static String books(SolarLedger x) {
        StringBuilder seen = new StringBuilder();
        for (int what = 0; what < 6; what++) {
            put(seen, x.setting(what));
        }
        for (int hour = 0; hour < 24; hour++) {
            put(seen, x.periodOf(hour));
        }
        put(seen, x.fund());
        put(seen, x.operatorAccount());
        putMonths(seen, x);
        for (int s = 0; s < x.subscriberCount(); s++) {
            putSubscriber(seen, x, s);
        }
        return seen.toString();
    }

    private static void putMonths(StringBuilder seen, SolarLedger x) {
        int periods = x.setting(4);
        int present = x.month();
        put(seen, present);
        put(seen, x.freeShares());
        for (int month = 0; month <= present; month++) {
            put(seen, x.shareDays(month, SolarLedger.NONE));
            for (int period = 0; period < periods; period++) {
                put(seen, x.generation(month, period));
            }
        }
    }

    private static void putSubscriber(StringBuilder seen, SolarLedger x, int s) {
        put(seen, x.state(s));
        put(seen, x.shares(s));
        put(seen, x.waitingPlace(s));
        put(seen, x.projectedCredit(s));
        put(seen, x.balance(s));
        put(seen, x.describe(s));
        for (int what = 0; what < 6; what++) {
            put(seen, x.account(s, what));
        }
        int present = x.month();
        for (int month = Math.max(0, present - 3); month <= present; month++) {
            put(seen, x.shareDays(month, s));
            put(seen, x.lot(s, month));
        }
    }

    private static void put(StringBuilder seen, long number) {
        seen.append(number).append(' ');
    }

    /** The description that is there, without a new one. */
    static String description(SolarLedger x) {
        StringBuilder text = new StringBuilder();
        try {
            for (int i = 0; i < 100; i++) {
                text.append((char) x.describedByte(i));
            }
        } catch (IndexOutOfBoundsException e) {
            return text.toString();
        }
        return text.toString();
    }

    /** Undoes all that can be undone. */
    static String undoing(SolarLedger x) {
        StringBuilder seen = new StringBuilder();
        try {
            for (int i = 0; i < 10; i++) {
                put(seen, x.undo());
                put(seen, x.subscriberCount());
                put(seen, x.freeShares());
                put(seen, x.month());
                put(seen, x.fund());
                put(seen, x.generation(x.month(), 0));
            }
        } catch (IllegalStateException e) {
            seen.append("no more");
        }
        return seen.toString();
    }

    /** How long the text buffer is, and what load says to its text. */
    static String buffer(SolarLedger x) {
        StringBuilder seen = new StringBuilder();
        int length = 300;
        try {
            length = x.append(SPACES, SPACES, SPACES, SPACES, SPACES);
        } catch (IllegalStateException e) {
            seen.append("full ");
        }
        put(seen, length);
        put(seen, x.load(length));
        put(seen, x.errorPosition());
        return seen.toString();
    }
}
