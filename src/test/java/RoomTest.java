import java.lang.management.ManagementFactory;

/**
 * A run of calls lives in one room of 7.3 million fields and elements: what 512 calls of any kind
 * allocate stays below half of it. Four bytes are taken for an element, as ints have them; longs
 * have more, and the few bytes of the texts do not matter.
 */
public final class RoomTest {
    private static final long ROOM = 7_300_000L;
    private static final int CALLS = 512;

    private interface Run {
        void call(int index);
    }

    private RoomTest() {
    }

    public static void main(String[] args) {
        measure("nothing", i -> { });
        measure("constructors", i -> new SolarLedger());
        SolarLedger[] last = {new SolarLedger()};
        measure("constructors with changes", i -> {
            if (i % 7 == 0) {
                last[0] = new SolarLedger();
            } else {
                last[0].trueUp();
            }
        });
        SolarLedger x = full();
        measure("changes and undo", i -> {
            if (i % 4 == 0) {
                x.undo();
            } else {
                x.bill(i % 16, 1);
            }
        });
        x.generate(0, 1);
        measure("rates", i -> x.neededRate(3, 0, 10));
        measure("forecasts", i -> x.forecastBalance(i % 16, 12));
        measure("months covered", i -> x.monthsCovered(i % 16, 1));
        measure("descriptions", i -> x.describe(i % 16));
        measure("refused calls", i -> Check.fails("bill", Check.ARGUMENT, () -> x.bill(0, 0)));
        measure("texts", i -> {
            if (i % 3 == 0) {
                x.load(40);
            } else {
                x.append(0x67617264, 0x656e3120, 0x31203120, 0x313b7065, 0x72696f64);
            }
        }, 1);
        Check.finish();
    }

    private static SolarLedger full() {
        SolarLedger x = new SolarLedger();
        for (int i = 0; i < 16; i++) {
            x.join(50, 1, 0);
        }
        for (int i = 0; i < 15; i++) {
            x.assign(i, i + 1, 50);
        }
        for (int month = 0; month < 12; month++) {
            Check.endMonth(x, 1_000_000);
        }
        x.generate(0, 1);
        return x;
    }

    private static long allocated() {
        return ((com.sun.management.ThreadMXBean) ManagementFactory.getThreadMXBean())
                .getThreadAllocatedBytes(Thread.currentThread().getId());
    }

    private static void measure(String name, Run run) {
        measure(name, run, 0);
    }

    private static void measure(String name, Run run, int first) {
        long before = allocated();
        for (int i = first; i < first + CALLS; i++) {
            run.call(i);
        }
        long used = (allocated() - before) / 4;
        System.out.println(name + ": " + used);
        if (used > ROOM / 2) {
            Check.fail(name + " took " + used + " elements");
        }
    }
}
