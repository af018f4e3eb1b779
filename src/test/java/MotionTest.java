/** Promises 1 to 10. */
final class MotionTest {
    private static final Class<IllegalArgumentException> ARGUMENT = IllegalArgumentException.class;
    private static final Class<IllegalStateException> STATE = IllegalStateException.class;
    private static final Class<IndexOutOfBoundsException> INDEX = IndexOutOfBoundsException.class;

    public static void main(String[] args) {
        newObject();
        newObjectsStandAlone();
        setTruth();
        setTruthInPass();
        addSegment();
        fullScript();
        clearScript();
        run();
        runThroughSegments();
        rateLimit();
        greatestTime();
        timeAndTruth();
        trueRangeIn();
        closestApproach();
        Check.finish("MotionTest");
    }

    private static RangingStation at(long range, int rate) {
        RangingStation x = new RangingStation();
        x.setTruth(range, rate);
        return x;
    }

    // Promise 1
    private static void newObject() {
        RangingStation x = new RangingStation();
        Check.eq("1 time", x.time(), 0);
        Check.eq("1 trueRange", x.trueRange(), 0);
        Check.eq("1 trueRate", x.trueRate(), 0);
        Check.eq("1 script", x.clearScript(), 0);
        Check.eq("1 toneCount", x.toneCount(), 0);
        Check.eq("1 passCount", x.passCount(), 0);
        Check.eq("1 distinctTimes", x.distinctTimes(), 0);
        Check.eq("1 longestChain", x.longestChain(), 0);
        for (int s = 0; s < 10; s++) {
            int station = s;
            Check.eq("1 delay", x.setDelay(s, 0), 0);
            Check.fails("1 delayEstimate", java.util.NoSuchElementException.class, () -> x.delayEstimate(station));
        }
        Check.eq("1 station", x.setStation(0), 0);
        Check.eq("1 noise", x.setNoise(0), 0);
        Check.eq("1 seed", x.setSeed(0), 0);
        Check.eq("1 Doppler wavelength", x.setDopplerWavelength(100), 100);
        Check.eq("1 a priori", x.setAPriori(0), 0);
        Check.eq("1 threshold", x.setSlipThreshold(1000), 1000);
        Check.eq("1 window", x.setWindow(10), 10);
        Check.fails("1 endPass", STATE, () -> x.endPass());
        Check.fails("1 range", INDEX, () -> x.range(0));
        Check.fails("1 calibratedStation", INDEX, () -> x.calibratedStation(0));
    }

    private static void newObjectsStandAlone() {
        RangingStation x = at(1000, 10);
        x.addTone(5000);
        x.addSegment(5, 5);
        RangingStation y = new RangingStation();
        Check.eq("1 another's range", y.trueRange(), 0);
        Check.eq("1 another's tones", y.toneCount(), 0);
        Check.eq("1 another's script", y.clearScript(), 0);
        Check.eq("1 one's own script", x.clearScript(), 1);
    }

    // Promise 2
    private static void setTruth() {
        RangingStation x = at(10000000000000L, 10000000);
        Check.eq("2 greatest range", x.trueRange(), 10000000000000L);
        Check.eq("2 greatest rate", x.trueRate(), 10000000);
        Check.fails("2 range too great", ARGUMENT, () -> x.setTruth(10000000000001L, 0));
        Check.fails("2 range negative", ARGUMENT, () -> x.setTruth(-1, 0));
        Check.fails("2 range least long", ARGUMENT, () -> x.setTruth(Long.MIN_VALUE, 0));
        Check.fails("2 rate too great", ARGUMENT, () -> x.setTruth(5, 10000001));
        Check.fails("2 rate too small", ARGUMENT, () -> x.setTruth(5, -10000001));
        Check.fails("2 rate least int", ARGUMENT, () -> x.setTruth(5, Integer.MIN_VALUE));
        Check.eq("2 range unchanged", x.trueRange(), 10000000000000L);
        Check.eq("2 rate unchanged", x.trueRate(), 10000000);
        x.run(3);
        x.addSegment(4, 4);
        x.setTruth(0, -10000000);
        Check.eq("2 least range", x.trueRange(), 0);
        Check.eq("2 least rate", x.trueRate(), -10000000);
        Check.eq("2 time stays", x.time(), 3);
        Check.eq("2 script stays", x.clearScript(), 1);
    }

    private static void setTruthInPass() {
        RangingStation x = at(7, 8);
        x.addTone(1000);
        x.beginPass();
        Check.fails("2 in a pass", STATE, () -> x.setTruth(0, 0));
        Check.fails("2 wrong range in a pass", ARGUMENT, () -> x.setTruth(-1, 0));
        Check.eq("2 range in a pass", x.trueRange(), 7);
        x.endPass();
        x.setTruth(9, 9);
        Check.eq("2 after a pass", x.trueRange(), 9);
    }

    // Promise 3
    private static void addSegment() {
        RangingStation x = new RangingStation();
        Check.eq("3 least", x.addSegment(1, -10000), 1);
        Check.eq("3 greatest", x.addSegment(1000, 10000), 2);
        Check.fails("3 seconds 0", ARGUMENT, () -> x.addSegment(0, 0));
        Check.fails("3 seconds 1001", ARGUMENT, () -> x.addSegment(1001, 0));
        Check.fails("3 seconds -1", ARGUMENT, () -> x.addSegment(-1, 0));
        Check.fails("3 acceleration 10001", ARGUMENT, () -> x.addSegment(1, 10001));
        Check.fails("3 acceleration -10001", ARGUMENT, () -> x.addSegment(1, -10001));
        Check.eq("3 unchanged", x.clearScript(), 2);
    }

    private static void fullScript() {
        RangingStation x = new RangingStation();
        for (int i = 1; i <= 20; i++) {
            Check.eq("3 segment", x.addSegment(i, i), i);
        }
        Check.fails("3 segment 21", STATE, () -> x.addSegment(1, 1));
        Check.fails("3 wrong segment 21", ARGUMENT, () -> x.addSegment(0, 1));
        // 1 * 1 + 2 * 2 + .. + 20 * 20
        x.run(210);
        Check.eq("3 all 20 in turn", x.trueRate(), 2870);
        Check.eq("3 all 20 used up", x.addSegment(1, 1), 1);
        x.clearScript();
        for (int i = 1; i <= 20; i++) {
            x.addSegment(2, 0);
        }
        x.run(1);
        Check.fails("3 the first not yet used up", STATE, () -> x.addSegment(1, 1));
        x.run(1);
        Check.eq("3 place again", x.addSegment(1, 1), 20);
    }

    // Promise 4
    private static void clearScript() {
        RangingStation x = new RangingStation();
        Check.eq("4 nothing", x.clearScript(), 0);
        x.addSegment(2, 100);
        x.addSegment(2, 100);
        x.run(1);
        Check.eq("4 one in use", x.clearScript(), 2);
        Check.eq("4 cleared", x.clearScript(), 0);
        x.run(1);
        Check.eq("4 no acceleration any more", x.trueRate(), 100);
        Check.eq("4 begins anew", x.addSegment(1, 7), 1);
        x.run(2);
        Check.eq("4 the new segment alone", x.trueRate(), 107);
    }

    // Promise 5
    private static void run() {
        RangingStation x = at(100, 7);
        Check.eq("5 one", x.run(1), 1);
        Check.eq("5 range", x.trueRange(), 107);
        Check.eq("5 thousand", x.run(1000), 1001);
        Check.eq("5 range then", x.trueRange(), 7107);
        Check.fails("5 zero", ARGUMENT, () -> x.run(0));
        Check.fails("5 negative", ARGUMENT, () -> x.run(-1));
        Check.fails("5 1001", ARGUMENT, () -> x.run(1001));
        Check.fails("5 greatest int", ARGUMENT, () -> x.run(Integer.MAX_VALUE));
        Check.eq("5 unchanged", x.time(), 1001);
        Check.eq("5 range unchanged", x.trueRange(), 7107);
    }

    private static void runThroughSegments() {
        RangingStation x = at(1000, 10);
        x.addSegment(2, -5);
        x.addSegment(1, 5);
        x.run(1);
        // 1000 + 10 + floor(-5 / 2)
        Check.eq("5 half rounds down", x.trueRange(), 1007);
        Check.eq("5 rate after range", x.trueRate(), 5);
        Check.eq("5 first segment in use", x.addSegment(1, 0), 3);
        x.run(1);
        Check.eq("5 second second", x.trueRange(), 1009);
        Check.eq("5 first segment removed", x.addSegment(1, 0), 3);
        x.run(1);
        // 1009 + 0 + floor(5 / 2)
        Check.eq("5 next segment", x.trueRange(), 1011);
        Check.eq("5 its rate", x.trueRate(), 5);
        x.run(10);
        Check.eq("5 script at its end", x.clearScript(), 0);
        Check.eq("5 goes on", x.trueRange(), 1061);
    }

    private static void rateLimit() {
        RangingStation x = at(0, 9999999);
        x.addSegment(2, 10);
        x.run(1);
        Check.eq("5 range below the limit", x.trueRange(), 10000004);
        Check.eq("5 rate at the limit", x.trueRate(), 10000000);
        x.run(1);
        Check.eq("5 range at the limit", x.trueRange(), 20000009);
        Check.eq("5 rate stays", x.trueRate(), 10000000);
        RangingStation y = at(0, -9999995);
        y.addSegment(1, -10);
        y.addSegment(1, 10000);
        y.run(1);
        Check.eq("5 lower limit", y.trueRate(), -10000000);
        y.run(1);
        Check.eq("5 away from the limit", y.trueRate(), -9990000);
        Check.eq("5 range negative", y.trueRange(), -9999995 - 5 - 10000000 + 5000);
    }

    // These are more than 512 calls, after which all answers are free: the limit is kept all the same.
    private static void greatestTime() {
        RangingStation x = at(0, 1);
        for (int i = 0; i < 999; i++) {
            x.run(1000);
        }
        Check.eq("5 nearly", x.run(999), 999999);
        Check.fails("5 beyond the greatest time", STATE, () -> x.run(2));
        Check.fails("5 wrong seconds first", ARGUMENT, () -> x.run(1001));
        Check.eq("5 range unchanged", x.trueRange(), 999999);
        Check.eq("5 greatest time", x.run(1), 1000000);
        Check.fails("5 one more", STATE, () -> x.run(1));
        Check.eq("9 looks beyond", x.trueRangeIn(1000), 1001000);
        Check.eq("10 looks beyond", x.closestApproach(1000), 0);
    }

    // Promises 6 to 8
    private static void timeAndTruth() {
        RangingStation x = at(5, -3);
        x.run(4);
        x.run(2);
        Check.eq("6 time", x.time(), 6);
        Check.eq("7 negative range", x.trueRange(), -13);
        Check.eq("8 rate", x.trueRate(), -3);
    }

    // Promise 9
    private static void trueRangeIn() {
        RangingStation x = at(1000, 10);
        x.addSegment(2, -5);
        x.addSegment(1, 5);
        Check.eq("9 in 0", x.trueRangeIn(0), 1000);
        Check.eq("9 in 1", x.trueRangeIn(1), 1007);
        Check.eq("9 in 3", x.trueRangeIn(3), 1011);
        Check.eq("9 in 1000", x.trueRangeIn(1000), 1011 + 997 * 5);
        Check.eq("9 again", x.trueRangeIn(3), 1011);
        Check.fails("9 in -1", ARGUMENT, () -> x.trueRangeIn(-1));
        Check.fails("9 in 1001", ARGUMENT, () -> x.trueRangeIn(1001));
        Check.eq("9 time stays", x.time(), 0);
        Check.eq("9 range stays", x.trueRange(), 1000);
        Check.eq("9 rate stays", x.trueRate(), 10);
        Check.eq("9 script stays", x.clearScript(), 2);
        Check.eq("9 without a script", x.trueRangeIn(2), 1020);
    }

    // Promise 10
    private static void closestApproach() {
        RangingStation x = at(1000, -10);
        x.addSegment(4, 5);
        // 1000, 992, 989, 991, 998, 1008
        Check.eq("10 in the middle", x.closestApproach(5), 2);
        Check.eq("10 limit before it", x.closestApproach(1), 1);
        Check.eq("10 limit 0", x.closestApproach(0), 0);
        Check.eq("10 limit 1000", x.closestApproach(1000), 2);
        Check.fails("10 limit -1", ARGUMENT, () -> x.closestApproach(-1));
        Check.fails("10 limit 1001", ARGUMENT, () -> x.closestApproach(1001));
        Check.eq("10 time stays", x.time(), 0);
        Check.eq("10 range stays", x.trueRange(), 1000);
        Check.eq("10 script stays", x.clearScript(), 1);
        Check.eq("10 the whole way", x.closestApproach(1000), 1000);
        Check.eq("10 all alike", at(5, 0).closestApproach(1000), 0);
        RangingStation y = at(100, -4);
        y.addSegment(1, 4);
        y.addSegment(1, -2);
        y.addSegment(1, 2);
        // 100, 98, 97, 96, 96: the first of the two least
        Check.eq("10 first of several", y.closestApproach(20), 3);
        Check.eq("10 they are alike", y.trueRangeIn(20), 96);
    }
}
