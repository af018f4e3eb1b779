import java.util.NoSuchElementException;

/** The four examples of the document. */
final class ExamplesTest {
    public static void main(String[] args) {
        first();
        second();
        third();
        fourth();
        Check.finish("ExamplesTest");
    }

    private static void first() {
        RangingStation x = new RangingStation();
        Check.eq("example 1 addTone", x.addTone(1000000L), 1);
        Check.eq("example 1 addTone", x.addTone(10000L), 2);
        Check.eq("example 1 addTone", x.addTone(1000L), 3);
        x.setTruth(1234567L, 1050);
        Check.eq("example 1 beginPass", x.beginPass(), 0);
        Check.eq("example 1 observe", x.observe(), 0);
        Check.eq("example 1 rangeAfter(0, 0)", x.rangeAfter(0, 0), 234000);
        Check.eq("example 1 rangeAfter(0, 1)", x.rangeAfter(0, 1), 234560);
        Check.eq("example 1 range(0)", x.range(0), 234567);
        Check.eq("example 1 setAPriori", x.setAPriori(1000000L), 0);
        Check.eq("example 1 range(0) again", x.range(0), 1234567);
        Check.eq("example 1 correction(0, 1)", x.correction(0, 1), 560);
    }

    private static void second() {
        RangingStation x = new RangingStation();
        Check.eq("example 2 addTone", x.addTone(1000000L), 1);
        x.setTruth(500000L, 2000);
        Check.eq("example 2 beginPass", x.beginPass(), 0);
        Check.eq("example 2 observe", x.observe(), 0);
        Check.eq("example 2 run", x.run(1), 1);
        Check.eq("example 2 addSlip", x.addSlip(5), 5);
        Check.eq("example 2 observe", x.observe(), 1);
        Check.eq("example 2 predicted", x.predicted(1), 502500);
        Check.eq("example 2 innovation", x.innovation(1), -1000500);
        Check.eqD("example 2 lineRate", x.lineRate(0), -998000.0);
        Check.fails("example 2 predicted(0)", NoSuchElementException.class, () -> x.predicted(0));
    }

    private static void third() {
        RangingStation x = new RangingStation();
        Check.eq("example 3 addTone", x.addTone(100000L), 1);
        Check.eq("example 3 setDelay", x.setDelay(0, 5555L), 0);
        Check.eq("example 3 calibrate", x.calibrate(1), 5500);
        Check.eq("example 3 delayEstimate(0)", x.delayEstimate(0), 5500);
        Check.fails("example 3 delayEstimate(1)", NoSuchElementException.class, () -> x.delayEstimate(1));
    }

    private static void fourth() {
        RangingStation x = new RangingStation();
        x.setTruth(1000L, 10);
        Check.eq("example 4 addSegment", x.addSegment(10, -5), 1);
        Check.eq("example 4 trueRangeIn", x.trueRangeIn(4), 998);
        Check.eq("example 4 closestApproach", x.closestApproach(10), 10);
        Check.eq("example 4 time", x.time(), 0);
        Check.fails("example 4 observe", IllegalStateException.class, () -> x.observe());
    }
}
