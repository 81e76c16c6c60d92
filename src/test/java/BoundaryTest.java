/**
 * All promises: each sentence of the document that names a boundary case (too small, too large,
 * empty, full, a wrap-around, a refused call), with a test of its own.
 */
public final class BoundaryTest {
    private BoundaryTest() {
    }

    public static void main(String[] args) {
        GardenBoundaries.run();
        TextBoundaries.run();
        SubscriberBoundaries.run();
        ShareBoundaries.run();
        MonthBoundaries.run();
        MonthEndBoundaries.run();
        ForecastBoundaries.run();
        CreditBoundaries.run();
        TrueUpBoundaries.run();
        ChangeBoundaries.run();
        Document.compareWith(Boundaries.quotes());
        Check.finish();
    }
}
