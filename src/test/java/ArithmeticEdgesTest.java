/** ARITHMETIC: each place where a division rounds down or the nearest multiple is taken, at its edges. */
final class ArithmeticEdgesTest {
    public static void main(String[] args) {
        halfOfTheAcceleration();
        phaseOfANegativeRange();
        phaseRoundsDown();
        estimateRoundsDown();
        cyclesOfANegativeRange();
        cyclesFromANegativeBeginning();
        meanOfSamples();
        smoothedRange();
        dopplerRate();
        nearestMultipleOfATone();
        nearestMultipleOfAnOddTone();
        nearestMultipleOfANegativeTarget();
        nearestMultipleToTheAPrioriRange();
        nearestMultipleOfAnOddLongestTone();
        nearestMultipleOfAnAmbiguity();
        Check.finish("ArithmeticEdgesTest");
    }

    // floor(a / 2) of the acceleration

    private static void halfOfTheAcceleration() {
        long[][] halves = {{-10000, -5000}, {-9999, -5000}, {-4, -2}, {-3, -2}, {-2, -1}, {-1, -1}, {0, 0}, {1, 0},
            {2, 1}, {3, 1}, {4, 2}, {9999, 4999}, {10000, 5000}};
        for (long[] half : halves) {
            Rows.play("floor(" + half[0] + " / 2)", "addSegment 1 " + half[0], "trueRangeIn 1 = " + half[1],
                "run 1 = 1", "trueRange = " + half[1], "trueRate = " + half[0]);
        }
    }

    // a mod b, and its floor(.. * 1000 / L)

    private static void phaseOfANegativeRange() {
        long[][] phases = {{-1, 999}, {-2, 998}, {-999, 1}, {-1000, 0}, {-1001, 999}, {-2000, 0}, {-9999999, 1}};
        for (long[] phase : phases) {
            Rows.play(phase[0] + " mod 1000", "addTone 1000", "setTruth 0 " + phase[0], "run 1", "trueRange = " + phase[0],
                "beginPass", "observe", "phase 0 0 = " + phase[1]);
        }
    }

    private static void phaseRoundsDown() {
        long[][] phases = {{0, 0}, {1, 0}, {2, 1}, {500, 499}, {501, 500}, {999, 998}, {1000, 999}, {1001, 0}, {1002, 0},
            {1003, 1}};
        for (long[] phase : phases) {
            Rows.play("phase of " + phase[0], "addTone 1001", "setTruth " + phase[0] + " 0", "beginPass", "observe",
                "phase 0 0 = " + phase[1]);
        }
        Rows.play("the greatest wavelength", "addTone 1000000000000", "setTruth 999999999 0", "beginPass", "observe",
            "phase 0 0 = 0", "endPass", "setTruth 1000000000 0", "beginPass", "observe", "phase 1 0 = 1", "endPass",
            "setTruth 999999999999 0", "beginPass", "observe", "phase 2 0 = 999", "endPass",
            "setTruth 1000000000000 0", "beginPass", "observe", "phase 3 0 = 0");
    }

    // floor(p(k) * L(k) / 1000)

    private static void estimateRoundsDown() {
        // A priori, the nearest is the estimate itself: 3 * 1999 / 1000, 999 * 1999 / 1000 and 500 * 1999 / 1000
        Rows.play("estimates of 1999", "addTone 1999", "setTruth 6 0", "beginPass", "observe", "phase 0 0 = 3",
            "range 0 = 5", "endPass", "setTruth 1000 0", "beginPass", "observe", "phase 1 0 = 500", "range 1 = 999",
            "endPass", "setTruth 1998 0", "setAPriori 1998", "beginPass", "observe", "phase 2 0 = 999", "range 2 = 1997");
    }

    // floor(true range / W)

    private static void cyclesOfANegativeRange() {
        Rows.play("counts below 0", "addTone 1000", "setTruth 0 -1", "beginPass", "observe", "run 1", "observe", "run 99",
            "observe", "run 1", "observe", "run 99", "observe", "run 1", "observe", "dopplerCount 0 = 0",
            "dopplerCount 1 = -1", "dopplerCount 2 = -1", "dopplerCount 3 = -2", "dopplerCount 4 = -2",
            "dopplerCount 5 = -3");
    }

    private static void cyclesFromANegativeBeginning() {
        Rows.play("counts from -1", "addTone 1000", "setTruth 0 -1", "run 1", "beginPass", "addSegment 1 2", "run 1",
            "trueRange = -1", "observe", "run 1", "trueRange = 0", "observe", "dopplerCount 0 = 0", "dopplerCount 1 = 1");
        Rows.play("counts from -100", "addTone 1000", "setTruth 0 -100", "run 1", "beginPass", "addSegment 1 101",
            "run 1", "trueRange = -150", "observe", "run 50", "trueRange = -100", "observe", "run 100", "trueRange = 0",
            "observe", "dopplerCount 0 = -1", "dopplerCount 1 = 0", "dopplerCount 2 = 1");
    }

    // floor(sum of the estimates / m)

    private static void meanOfSamples() {
        // The seeds are picked so that the two estimates have this sum.
        long[][] sums = {{6, -2, -1}, {19, -1, -1}, {4, 0, 0}, {2, 1, 0}, {5, 2, 1}};
        for (long[] sum : sums) {
            Rows.play("floor(" + sum[1] + " / 2)", "addTone 10000", "addTone 1000", "setNoise 1", "setSeed " + sum[0],
                "calibrate 2 = " + sum[2], "delayEstimate 0 = " + sum[2]);
        }
        long[][] thirds = {{40, -3, -1}, {17, -2, -1}, {18, -1, -1}, {8, 1, 0}, {5, 2, 0}, {233, 3, 1}};
        for (long[] sum : thirds) {
            Rows.play("floor(" + sum[1] + " / 3)", "addTone 10000", "addTone 1000", "setNoise 1", "setSeed " + sum[0],
                "calibrate 3 = " + sum[2], "delayEstimate 0 = " + sum[2]);
        }
    }

    // floor((range + (n - 1) * q) / n)

    private static void smoothedRange() {
        // Both ranges are the same, so that the sum is twice the range and the slip.
        long[][] above = {{-3, 998}, {-2, 999}, {-1, 999}, {0, 1000}, {1, 1000}, {2, 1001}, {3, 1001}};
        for (long[] row : above) {
            Rows.play("floor((2000 + " + row[0] + ") / 2)", "addTone 1000000", "setDopplerWavelength 1",
                "setTruth 1000 0", "beginPass", "observe", "addSlip " + row[0], "observe", "smoothed 1 = " + row[1]);
        }
        long[][] below = {{-3, -1002}, {-2, -1001}, {-1, -1001}, {0, -1000}, {1, -1000}, {2, -999}, {3, -999}};
        for (long[] row : below) {
            Rows.play("floor((-2000 + " + row[0] + ") / 2)", "addTone 1000000", "setDopplerWavelength 1",
                "setTruth 0 -1000", "run 1", "beginPass", "observe", "addSlip " + row[0], "observe",
                "smoothed 1 = " + row[1]);
        }
    }

    // floor((Doppler count of b - Doppler count of a) * W / (time of b - time of a))

    private static void dopplerRate() {
        // Standing still, after 1000 seconds: the ambiguity of 1000 is the rate.
        long[][] rates = {{-4, -2}, {-3, -2}, {-2, -1}, {-1, -1}, {0, 0}, {1, 0}, {2, 1}, {3, 1}, {4, 2}};
        for (long[] rate : rates) {
            Rows.play("floor(" + rate[0] + " * 1 / 2)", "addTone 1000", "setDopplerWavelength 1", "setWindow 1",
                "beginPass", "observe", "addSlip " + rate[0], "run 2", "observe", "endPass", "run 1000", "beginPass",
                "observe", "join 1 = " + rate[1], "ambiguity 1 = " + rate[1]);
        }
        // 5 * 7 / 3, -5 * 7 / 3: the product is divided, not a factor.
        Rows.play("floor(5 * 7 / 3)", "addTone 1000", "setDopplerWavelength 7", "setWindow 1", "beginPass", "observe",
            "addSlip 5", "run 3", "observe", "endPass", "run 1000", "beginPass", "observe", "join 1 = 11");
        Rows.play("floor(-5 * 7 / 3)", "addTone 1000", "setDopplerWavelength 7", "setWindow 1", "beginPass", "observe",
            "addSlip -5", "run 3", "observe", "endPass", "run 1000", "beginPass", "observe", "join 1 = -12");
    }

    // n = floor((2 * a + b) / (2 * b))

    private static void corrections(String longer, String shorter, long[][] rows) {
        for (long[] row : rows) {
            Rows.play("nearest multiple at " + row[0], "addTone " + longer, "addTone " + shorter,
                "setTruth " + row[0] + " 0", "beginPass", "observe", "correction 0 1 = " + row[1],
                "correction 0 0 = 0");
        }
    }

    private static void nearestMultipleOfATone() {
        corrections("1000000", "1000", new long[][] {{5499, 499}, {5500, 500}, {5501, -499}, {499, 499}, {500, 500},
            {501, -499}, {999499, 499}, {999500, 500}, {999501, -499}});
    }

    private static void nearestMultipleOfAnOddTone() {
        // The estimate is 0 and f is 499, 500 and 501: there is no half of 1001.
        corrections("1000000", "1001", new long[][] {{500, 499}, {501, 500}, {502, -500}});
    }

    private static void nearestMultipleOfANegativeTarget() {
        // The range after a tone is given against the a priori range 0; the estimates themselves are above 0 here.
        Rows.play("a range below 0", "addTone 1000000", "addTone 100000", "setTruth 999700 0", "beginPass",
            "observe", "rangeAfter 0 0 = -1000", "rangeAfter 0 1 = -300", "correction 0 1 = 700");
        Rows.play("an estimate of -1", "addTone 10000", "addTone 1000", "setNoise 1", "setSeed 19", "beginPass",
            "observe", "phase 0 0 = 0", "phase 0 1 = 999", "correction 0 1 = -1", "range 0 = -1", "rangeAfter 0 0 = 0");
    }

    private static void nearestTo(String tone, long truth, long[][] rows) {
        for (long[] row : rows) {
            Rows.play(truth + " near " + row[0], "addTone " + tone, "setTruth " + truth + " 0", "beginPass", "observe",
                "setAPriori " + row[0], "range 0 = " + row[1], "rangeAfter 0 0 = " + row[1]);
        }
    }

    private static void nearestMultipleToTheAPrioriRange() {
        nearestTo("1000", 0, new long[][] {{0, 0}, {499, 0}, {500, 1000}, {501, 1000}, {1499, 1000}, {1500, 2000},
            {10000000000000L, 10000000000000L}, {9999999999499L, 9999999999000L}, {9999999999500L, 10000000000000L}});
        nearestTo("1000", 499, new long[][] {{0, 499}, {998, 499}, {999, 1499}});
        nearestTo("1000", 500, new long[][] {{0, 500}, {999, 500}, {1000, 1500}});
        nearestTo("1000", 501, new long[][] {{0, -499}, {1, 501}, {1000, 501}, {1001, 1501}});
        nearestTo("1000000000000", 500000000000L, new long[][] {{0, 500000000000L}, {999999999999L, 500000000000L},
            {1000000000000L, 1500000000000L}});
    }

    private static void nearestMultipleOfAnOddLongestTone() {
        nearestTo("1001", 0, new long[][] {{500, 0}, {501, 1001}, {1501, 1001}, {1502, 2002}});
        // The estimates are 500 and 501.
        nearestTo("1001", 501, new long[][] {{0, 500}});
        nearestTo("1001", 502, new long[][] {{0, -500}});
    }

    private static void nearestMultipleOfAnAmbiguity() {
        // Standing still with a Doppler rate of 1 or -1: so many seconds later, so many millimetres are expected.
        long[][] up = {{499, 0}, {500, 1}, {501, 1}};
        long[][] down = {{499, 0}, {500, 0}, {501, -1}};
        for (long[] row : up) {
            joinAfter(row[0], 1, row[1]);
        }
        for (long[] row : down) {
            joinAfter(row[0], -1, row[1]);
        }
    }

    private static void joinAfter(long seconds, int slip, long ambiguity) {
        Rows.play("expected " + slip * seconds, "addTone 1000", "setDopplerWavelength 1", "setWindow 1", "beginPass",
            "observe", "addSlip " + slip, "run 1", "observe", "endPass", "run " + seconds, "beginPass", "observe",
            "join 1 = " + ambiguity, "range 2 = " + 1000 * ambiguity);
    }
}
