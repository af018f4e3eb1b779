/** ARITHMETIC, "all results fit into a long": answers of all kinds that would not fit into an int or a float. */
final class SizesTest {
    private static final String[] MILLIMETRES = {"addTone 1000000000000", "addTone 1000000000", "addTone 1000000",
        "addTone 1000"};

    public static void main(String[] args) {
        truth();
        closestApproach();
        wavelengthAndAPrioriRange();
        delayEstimate();
        correction();
        dopplerCount();
        innovation();
        sumsOfInnovations();
        line();
        ambiguity();
        negativeAmbiguity();
        ambiguityOfGreatRanges();
        Check.finish("SizesTest");
    }

    private static void truth() {
        Rows.play("great ranges", "setTruth 10000000000000 10000000", "trueRange = 10000000000000",
            "trueRangeIn 1000 = 10010000000000", "run 1000", "trueRange = 10010000000000");
        Rows.play("great ranges below 0", "setTruth 0 -9999999", "run 1000", "trueRange = -9999999000",
            "trueRangeIn 1000 = -19999998000");
    }

    private static void closestApproach() {
        // 2 to the 32nd: the lower half is 0, and then all of its bits are set.
        Rows.play("near 2 to the 32nd", "setTruth 4294967296 -1", "closestApproach 0 = 0", "closestApproach 10 = 10",
            "closestApproach 1000 = 1000", "setTruth 4294967295 1", "closestApproach 1000 = 0");
    }

    private static void wavelengthAndAPrioriRange() {
        Rows.play("what was set", "addTone 1000000000000", "addTone 999999999999", "wavelength 0 = 1000000000000",
            "wavelength 1 = 999999999999", "setAPriori 9999999999999 = 0", "setAPriori 1 = 9999999999999");
    }

    private static void delayEstimate() {
        // The noise of -30000 makes the phase 999. Of the twenty numbers that follow, eight are below the amplitude.
        Rows.play("great estimates", "addTone 1000000000000", "setNoise 30000", "calibrate 1 = 999000000000",
            "delayEstimate 0 = 999000000000", "calibrate 20 = 399600000000", "delayEstimate 0 = 399600000000",
            "setSeed 0", "calibrate 1 = 999000000000", "setNoise 0", "beginPass", "observe", "range 0 = 1000000000",
            "rangeAfter 0 0 = 1000000000", "setAPriori 10000000000000", "range 0 = 10001000000000",
            "rangeAfter 0 0 = 10001000000000");
    }

    private static void correction() {
        String[] tones = {"addTone 1000000000000", "addTone 700000000000"};
        // The estimate after tone 0 is 0; of 700000000000 there are 428 and 857 thousandths.
        Rows.play("a great correction", States.plus(tones, "setTruth 1000000000000 0", "beginPass", "observe",
            "correction 0 1 = 299600000000", "isWeak 0 1 = true", "weakIn 0 1 = 1", "rangeAfter 0 1 = 299600000000",
            "rangeAfter 0 0 = 0"));
        Rows.play("a great correction below 0", States.plus(tones, "setTruth 2000000000000 0", "beginPass", "observe",
            "correction 0 1 = -100100000000", "isWeak 0 1 = false", "weakIn 0 1 = 0", "rangeAfter 0 1 = -100100000000"));
    }

    private static void dopplerCount() {
        Rows.play("great counts", "addTone 1000000000000", "setDopplerWavelength 1", "setTruth 1 9999999", "beginPass",
            "observe", "run 1000", "observe", "addSlip 7", "run 1", "observe", "dopplerCount 1 = 9999999000",
            "dopplerCount 2 = 10009999006", "range 1 = 9000000000",
            "predicted 1 = 9999999000", "predicted 2 = 9010000006");
        Rows.play("great counts below 0", "addTone 1000000000000", "setDopplerWavelength 1", "setTruth 1 -9999999",
            "beginPass", "run 1000", "observe", "dopplerCount 0 = -9999999000");
    }

    private static void innovation() {
        // The range passes half of the longest wavelength, and falls by the whole of it.
        Rows.play("a great innovation", States.plus(MILLIMETRES, "setDopplerWavelength 10000",
            "setTruth 499999999999 9999999", "beginPass", "observe", "run 1", "observe", "run 2", "observe",
            "range 0 = 498998998999", "range 1 = -499991001002", "predicted 1 = 499008998999",
            "innovation 1 = -999000000001", "innovation 2 = -2", "smoothed 1 = -491001002", "smoothed 2 = -166971001003",
            "slips 0 = 1", "setSlipThreshold 1000000000", "slips 0 = 1"));
    }

    private static RangingStation fallingRange() {
        RangingStation x = Check.withTones(1000000000000L, 1000000000L, 1000000L, 1000L);
        x.setDopplerWavelength(10000);
        x.setTruth(499999999999L, 9999999);
        x.beginPass();
        x.observe();
        x.run(1);
        x.observe();
        x.run(2);
        x.observe();
        return x;
    }

    private static void sumsOfInnovations() {
        RangingStation x = fallingRange();
        // -999000000001 and -2
        double mean = -999000000003.0 / 2.0;
        double first = -999000000001.0 - mean;
        double second = -2.0 - mean;
        Check.eqD("44 great innovations", x.meanInnovation(0), mean);
        Check.eqD("45 great innovations", x.varianceInnovation(0), (first * first + second * second) / 2.0);
    }

    private static void line() {
        RangingStation x = fallingRange();
        // t: 0, 1, 3; y: 0, -998990000001, -998970000003
        double first = -998990000001.0;
        double second = -998970000003.0;
        double sum = first + second;
        double rate = (3.0 * (first + 3.0 * second) - 4.0 * sum) / (3.0 * 10.0 - 4.0 * 4.0);
        double offset = (sum - rate * 4.0) / 3.0;
        Check.eqD("48 great ranges", x.lineRate(0), rate);
        Check.eqD("49 great ranges", x.lineOffset(0), offset);
        Check.eqD("50 great ranges, first", x.residual(0), 0.0 - (offset + rate * 0.0));
        Check.eqD("50 great ranges, second", x.residual(1), first - (offset + rate * 1.0));
        Check.eqD("50 great ranges, third", x.residual(2), second - (offset + rate * 3.0));
    }

    private static String[] farPasses(int slip) {
        return new String[] {"addTone 1000", "setDopplerWavelength 10000", "beginPass", "observe",
            "240*(addSlip " + slip + ")", "run 1", "observe", "endPass", "240*(run 1000)", "beginPass", "observe"};
    }

    private static void ambiguity() {
        // Smoothed 1200000000, and the rate is 2400000000, for 240000 seconds.
        Rows.play("a great ambiguity", States.plus(farPasses(1000), "smoothed 1 = 1200000000", "join 1 = 576001200000",
            "ambiguity 1 = 576001200000", "range 2 = 576001200000000", "rangeAfter 2 0 = 576001200000000", "run 1",
            "observe", "predicted 3 = 576001200000000", "innovation 3 = 0", "smoothed 3 = 576001200000000"));
    }

    private static void negativeAmbiguity() {
        Rows.play("a great ambiguity below 0", States.plus(farPasses(-1000), "smoothed 1 = -1200000000",
            "join 1 = -576001200000", "ambiguity 1 = -576001200000", "range 2 = -576001200000000"));
    }

    private static void ambiguityOfGreatRanges() {
        Rows.play("great ranges in both passes", "addTone 1000000", "setAPriori 10000000000000", "beginPass", "observe",
            "run 1", "observe", "endPass", "beginPass", "observe", "smoothed 1 = 10000000000000",
            "range 2 = 10000000000000", "join 1 = 0", "range 2 = 10000000000000", "longestChain = 2");
    }
}
