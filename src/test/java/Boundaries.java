import java.util.ArrayList;
import java.util.List;
import java.util.NoSuchElementException;

/**
 * What the suites of boundary cases share: each test bears the words of the document that it
 * tests, and every refused call is tried on a ledger that is then compared with an untouched one.
 */
abstract class Boundaries {
    /** Words of the document, and the part of it in which they stand. */
    record Quote(String part, String words) {
    }

    interface Maker {
        SolarLedger make();
    }

    interface Use {
        void on(SolarLedger x);
    }

    interface UseOfNumber {
        void on(SolarLedger x, int number);
    }

    static final Class<IllegalArgumentException> ARGUMENT = IllegalArgumentException.class;
    static final Class<IllegalStateException> STATE = IllegalStateException.class;
    static final Class<IndexOutOfBoundsException> INDEX = IndexOutOfBoundsException.class;
    static final Class<NoSuchElementException> NO_ELEMENT = NoSuchElementException.class;
    static final int NONE = SolarLedger.NONE;
    static final int LEAST = Integer.MIN_VALUE;
    static final int GREATEST = Integer.MAX_VALUE;

    private static final List<Quote> QUOTES = new ArrayList<>();
    private static String here = "";
    private static int checks = 0;

    static List<Quote> quotes() {
        return QUOTES;
    }

    static void holds(String part, String words, Check.Action test) {
        QUOTES.add(new Quote(part, words));
        here = part + ", \"" + words + "\"";
        checks = 0;
        try {
            test.run();
        } catch (RuntimeException e) {
            Check.fail(here + ": behind check " + checks + " came " + e);
        }
        if (checks == 0) {
            Check.fail(here + " is not tested");
        }
    }

    private static String nextCheck() {
        checks++;
        return here + ": check " + checks;
    }

    static void due(long want, long got) {
        Check.due(nextCheck(), want, got);
    }

    static void due(String want, String got) {
        Check.due(nextCheck(), want, got);
    }

    /** The call throws what is due, and changes nothing that can be seen, now or by undo. */
    static void refused(Class<? extends RuntimeException> want, Maker maker, Use call) {
        SolarLedger tried = maker.make();
        Check.fails(nextCheck(), want, () -> call.on(tried));
        sameLedgers(maker.make(), tried);
    }

    static void refusedForEach(Class<? extends RuntimeException> want, Maker maker, int[] numbers,
            UseOfNumber call) {
        for (int number : numbers) {
            refused(want, maker, x -> call.on(x, number));
        }
    }

    /** Uses both ledgers up: their changes are undone and their buffers are read. */
    private static void sameLedgers(SolarLedger untouched, SolarLedger tried) {
        String name = nextCheck();
        Check.due(name + ", description", Look.description(untouched), Look.description(tried));
        Check.due(name + ", errorPosition", untouched.errorPosition(), tried.errorPosition());
        Check.due(name + ", look", Look.books(untouched), Look.books(tried));
        Check.due(name + ", undo", Look.undoing(untouched), Look.undoing(tried));
        Check.due(name + ", buffer", Look.buffer(untouched), Look.buffer(tried));
    }

    /** How many changes can be undone. */
    static int undoable(SolarLedger x) {
        int count = 0;
        try {
            for (; count < 512; count++) {
                x.undo();
            }
        } catch (IllegalStateException e) {
            return count;
        }
        return count;
    }

    static int[] others(int... numbers) {
        return numbers;
    }
}
