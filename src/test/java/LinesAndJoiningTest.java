/** Promises 48 to 53. */
final class LinesAndJoiningTest {
    private static final Class<IllegalStateException> STATE = IllegalStateException.class;
    private static final Class<IndexOutOfBoundsException> INDEX = IndexOutOfBoundsException.class;
    private static final Class<ArithmeticException> FEW = ArithmeticException.class;

    public static void main(String[] args) {
        line();
        lineOfJoinedPass();
        lineRefused();
        join();
        joinAgain();
        joinWithOtherTones();
        joinBackwards();
        joinToALateBeginning();
        joinWithSlips();
        joinRefused();
        joinRunningPasses();
        ambiguity();
        longestChain();
        twentyJoined();
        Check.finish("LinesAndJoiningTest");
    }

    // Promises 48 to 50
    private static void line() {
        RangingStation x = Check.withTones(1000000);
        x.run(5);
        x.setTruth(10000, 1000);
        x.beginPass();
        x.observe();
        x.run(1);
        x.observe();
        Check.eqD("48 two points", x.lineRate(0), 1000.0);
        Check.eqD("49 two points", x.lineOffset(0), 0.0);
        Check.eqD("50 two points", x.residual(1), 0.0);
        x.addSegment(1, 2000);
        x.run(1);
        x.observe();
        // t: 0, 1, 2; y: 0, 1000, 3000
        double offset = -500.0 / 3.0;
        Check.eqD("48 three points", x.lineRate(0), 1500.0);
        Check.eqD("49 three points", x.lineOffset(0), offset);
        Check.eqD("50 first", x.residual(0), 0.0 - (offset + 1500.0 * 0.0));
        Check.eqD("50 second", x.residual(1), 1000.0 - (offset + 1500.0 * 1.0));
        Check.eqD("50 third", x.residual(2), 3000.0 - (offset + 1500.0 * 2.0));
        x.observe();
        // One more point 2, 3000: n 4, st 5, sy 7000, stt 9, sty 13000
        Check.eqD("48 equal times", x.lineRate(0), 17000.0 / 11.0);
        Check.eqD("49 equal times", x.lineOffset(0), (7000.0 - 17000.0 / 11.0 * 5.0) / 4.0);
    }

    private static void lineOfJoinedPass() {
        RangingStation x = Check.withTones(1000000);
        x.setTruth(0, 300000);
        x.beginPass();
        x.observe();
        x.run(1);
        x.observe();
        x.endPass();
        Check.eqD("48 with the nearest multiple", x.lineRate(0), 300000.0);
        x.setAPriori(800000);
        // 1000000 and 300000 + 1000000 * nearest(500000) = 1300000
        Check.eqD("48 with the present a priori range", x.lineRate(0), 300000.0);
        x.setAPriori(600000);
        Check.eqD("48 over the edge", x.lineRate(0), -700000.0);
        Check.eqD("49 over the edge", x.lineOffset(0), 0.0);
        x.beginPass();
        x.run(1);
        x.observe();
        Check.fails("48 another pass", FEW, () -> x.lineRate(1));
    }

    private static void lineRefused() {
        RangingStation x = Check.withTones(1000000);
        Check.fails("48 no pass", INDEX, () -> x.lineRate(0));
        Check.fails("49 no pass", INDEX, () -> x.lineOffset(0));
        Check.fails("50 no observation", INDEX, () -> x.residual(0));
        x.beginPass();
        Check.fails("48 no observations", FEW, () -> x.lineRate(0));
        Check.fails("49 no observations", FEW, () -> x.lineOffset(0));
        x.observe();
        Check.fails("48 one", FEW, () -> x.lineRate(0));
        Check.fails("49 one", FEW, () -> x.lineOffset(0));
        Check.fails("50 one", FEW, () -> x.residual(0));
        x.observe();
        Check.fails("48 two at one time", FEW, () -> x.lineRate(0));
        Check.fails("49 two at one time", FEW, () -> x.lineOffset(0));
        Check.fails("50 two at one time", FEW, () -> x.residual(1));
        x.run(1);
        x.observe();
        Check.eqD("48 two times", x.lineRate(0), 0.0);
        Check.fails("48 pass -1", INDEX, () -> x.lineRate(-1));
        Check.fails("48 pass 1", INDEX, () -> x.lineRate(1));
        Check.fails("49 pass -1", INDEX, () -> x.lineOffset(-1));
        Check.fails("49 pass 20", INDEX, () -> x.lineOffset(20));
        Check.fails("50 observation -1", INDEX, () -> x.residual(-1));
        Check.fails("50 observation 3", INDEX, () -> x.residual(3));
    }

    /** Pass 0 has the ranges -300000 and -250000, one second apart; pass 1 comes 20 seconds later. */
    private static RangingStation twoPasses() {
        RangingStation x = Check.withTones(1000000);
        x.setTruth(700000, 50000);
        x.beginPass();
        x.observe();
        x.run(1);
        x.observe();
        x.endPass();
        x.run(20);
        return x;
    }

    // Promises 51 and 52
    private static void join() {
        RangingStation x = twoPasses();
        x.beginPass();
        x.observe();
        x.run(1);
        x.observe();
        x.endPass();
        Check.eq("36 not joined", x.range(2), -250000);
        Check.eq("52 not joined", x.ambiguity(1), 0);
        // -250000 + 50000 * 20 is expected
        Check.eq("51 joined", x.join(1), 1);
        Check.eq("52 joined", x.ambiguity(1), 1);
        Check.eq("52 the one before", x.ambiguity(0), 0);
        Check.eq("36 joined", x.range(2), 750000);
        Check.eq("35 joined", x.rangeAfter(2, 0), 750000);
        Check.eq("36 another one of the pass", x.range(3), 800000);
        Check.eq("47 joined", x.smoothed(2), 750000);
        Check.eq("40 joined", x.predicted(3), 800000);
        Check.eq("41 joined", x.innovation(3), 0);
        x.setAPriori(1000000);
        Check.eq("52 stays", x.ambiguity(1), 1);
        Check.eq("36 with the a priori range", x.range(2), 1750000);
        Check.eq("51 the ambiguity is not counted twice", x.join(1), 1);
    }

    private static void joinAgain() {
        RangingStation x = twoPasses();
        x.beginPass();
        x.observe();
        Check.eq("51 once", x.join(1), 1);
        x.setAPriori(1200000);
        Check.eq("52 before it is joined again", x.ambiguity(1), 1);
        // Ranges 1700000 and 750000, smoothed 1250000, expected 2250000, without ambiguity 750000
        Check.eq("51 again", x.join(1), 2);
        Check.eq("52 again", x.ambiguity(1), 2);
        x.setWindow(1);
        // Smoothed 750000, expected 1750000
        Check.eq("51 with another window", x.join(1), 1);
        Check.eq("53 joined three times", x.longestChain(), 2);
    }

    private static void joinWithOtherTones() {
        RangingStation x = twoPasses();
        x.removeTone();
        x.addTone(200000);
        x.addTone(50000);
        x.setDopplerWavelength(7);
        x.beginPass();
        x.observe();
        Check.eq("36 with other tones", x.range(2), -50000);
        // 750000 is expected, and -50000 is without ambiguity
        Check.eq("51 with other tones", x.join(1), 4);
        Check.eq("36 joined with other tones", x.range(2), 750000);
        x.endPass();
        x.setDelay(0, 60000);
        x.calibrate(1);
        Check.eq("21 calibrated", x.delayEstimate(0), 60000);
        // 150000 - 60000 = 90000 is nearest to 0 as it is: 90000 + 4 * 200000
        Check.eq("36 the estimate", x.range(2), 890000);
        // Ranges 700000 - 60000 - 1000000 = -360000 and -310000; expected 690000 with 90000
        Check.eq("51 with the estimate", x.join(1), 3);
    }

    private static void joinBackwards() {
        RangingStation x = Check.withTones(1000);
        x.setTruth(1000, -10);
        x.beginPass();
        x.observe();
        x.run(3);
        x.observe();
        x.endPass();
        x.beginPass();
        x.run(1000);
        x.observe();
        Check.eq("47 before", x.smoothed(1), -65);
        Check.eq("36 after", x.range(2), -30);
        // floor(-100 / 3) = -34: -65 - 34000 is expected
        Check.eq("51 the Doppler rate rounds down", x.join(1), -34);
        Check.eq("52 negative", x.ambiguity(1), -34);
        Check.eq("36 negative", x.range(2), -34030);
    }

    private static void joinToALateBeginning() {
        RangingStation x = Check.withTones(1000000);
        x.setTruth(600000, 50000);
        x.beginPass();
        x.addSlip(123);
        x.run(2);
        x.observe();
        x.run(1);
        x.observe();
        x.endPass();
        x.run(20);
        x.beginPass();
        x.observe();
        Check.eq("32 not from 0", x.dopplerCount(0), 1123);
        // The rate is (1623 - 1123) * 100 / (3 - 2): -250000 + 50000 * 20 is expected, as in twoPasses
        Check.eq("51 the differences of counts and times", x.join(1), 1);
    }

    private static void joinWithSlips() {
        RangingStation x = twoPasses();
        x.beginPass();
        x.observe();
        x.addSlip(1000);
        x.observe();
        x.run(2);
        x.observe();
        x.endPass();
        x.run(4);
        x.beginPass();
        x.run(1);
        x.observe();
        x.addSlip(-1000);
        x.run(1);
        x.observe();
        x.join(1);
        // Ranges 750000, 750000, 850000; counts 0, 1000, 2000; the smoothed ranges are 750000, 800000,
        // (850000 + 2 * 900000) / 3 = 883333; the rate is 100000, and 1383333 is expected
        Check.eq("47 with a slip", x.smoothed(4), 883333);
        // The truth is 2100000: 100000 without ambiguity
        Check.eq("51 with a slip", x.join(2), 1);
        Check.eq("36 with a slip", x.range(5), 1100000);
    }

    private static void joinRefused() {
        RangingStation x = Check.withTones(1000000);
        Check.fails("51 no passes", INDEX, () -> x.join(0));
        Check.fails("51 no pass 1", INDEX, () -> x.join(1));
        x.beginPass();
        x.endPass();
        Check.fails("51 pass 0", INDEX, () -> x.join(0));
        x.beginPass();
        Check.fails("51 both without observations", STATE, () -> x.join(1));
        x.observe();
        Check.fails("51 none before", STATE, () -> x.join(1));
        x.endPass();
        x.beginPass();
        Check.fails("51 no observations", STATE, () -> x.join(2));
        x.observe();
        Check.fails("51 one before", STATE, () -> x.join(2));
        x.observe();
        x.endPass();
        x.beginPass();
        x.run(1);
        x.observe();
        Check.fails("51 two at one time before", STATE, () -> x.join(3));
        Check.fails("51 pass 4", INDEX, () -> x.join(4));
        Check.fails("51 pass -1", INDEX, () -> x.join(-1));
        Check.fails("51 least int", INDEX, () -> x.join(Integer.MIN_VALUE));
        Check.fails("51 greatest int", INDEX, () -> x.join(Integer.MAX_VALUE));
        Check.eq("53 nothing joined", x.longestChain(), 1);
        x.run(1);
        x.observe();
        x.endPass();
        x.beginPass();
        Check.fails("51 two times before, none in it", STATE, () -> x.join(4));
        x.observe();
        Check.eq("51 at last", x.join(4), 0);
        Check.eq("53 joined", x.longestChain(), 2);
    }

    private static void joinRunningPasses() {
        RangingStation x = twoPasses();
        x.beginPass();
        x.observe();
        Check.eq("51 while it runs", x.join(1), 1);
        x.run(1);
        x.observe();
        Check.eq("36 observed after it was joined", x.range(3), 800000);
        x.endPass();
        x.beginPass();
        x.observe();
        // 800000 is expected, and -200000 is without ambiguity
        Check.eq("51 to a joined one", x.join(2), 1);
        Check.eq("53 three", x.longestChain(), 3);
    }

    private static void ambiguity() {
        RangingStation x = Check.withTones(1000000);
        Check.fails("52 no passes", INDEX, () -> x.ambiguity(0));
        x.beginPass();
        Check.eq("52 running", x.ambiguity(0), 0);
        Check.fails("52 pass 1", INDEX, () -> x.ambiguity(1));
        Check.fails("52 pass -1", INDEX, () -> x.ambiguity(-1));
        Check.fails("52 pass 20", INDEX, () -> x.ambiguity(20));
    }

    private static void passesWithTwoTimes(RangingStation x, int count) {
        for (int i = 0; i < count; i++) {
            x.beginPass();
            x.observe();
            x.run(1);
            x.observe();
            x.endPass();
        }
    }

    // Promise 53
    private static void longestChain() {
        RangingStation x = Check.withTones(1000000);
        Check.eq("53 no passes", x.longestChain(), 0);
        x.beginPass();
        Check.eq("53 one without observations", x.longestChain(), 1);
        x.endPass();
        passesWithTwoTimes(x, 6);
        Check.eq("53 none joined", x.longestChain(), 1);
        x.join(2);
        Check.eq("53 two", x.longestChain(), 2);
        x.join(4);
        Check.eq("53 two and two", x.longestChain(), 2);
        x.join(5);
        Check.eq("53 two and three", x.longestChain(), 3);
        x.join(3);
        Check.eq("53 all together", x.longestChain(), 5);
        x.join(6);
        Check.eq("53 to the end", x.longestChain(), 6);
        x.join(6);
        Check.eq("53 again", x.longestChain(), 6);
    }

    private static void twentyJoined() {
        RangingStation x = Check.withTones(1000000);
        passesWithTwoTimes(x, 20);
        for (int i = 1; i < 20; i++) {
            Check.eq("51 standing still", x.join(i), 0);
        }
        Check.eq("53 twenty", x.longestChain(), 20);
        Check.fails("51 pass 20", INDEX, () -> x.join(20));
    }
}
