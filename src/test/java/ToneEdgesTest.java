/** STATIONS AND TONES: no tone and the most tones, the noise, weak tones, and stations with and without an estimate. */
final class ToneEdgesTest {
    private static final String ARGUMENT = "IllegalArgumentException";
    private static final String STATE = "IllegalStateException";
    private static final String INDEX = "IndexOutOfBoundsException";
    private static final String NONE = "NoSuchElementException";

    public static void main(String[] args) {
        noTone();
        sixTones();
        eachLessThanTheOneBefore();
        lessThanTheLastPresentOne();
        sixTonesMeasured();
        oneToneMeasured();
        eachStationHasItsDelay();
        presentStation();
        delaysAtTheEdges();
        nothingDrawnWithoutNoise();
        drawnWithNoise();
        leastAndGreatestNoise();
        numberIsNotNegative();
        stateWrapsAround();
        noiseAroundZero();
        noiseOfItsOwn();
        toneZeroHasNoCorrection();
        weakAtAQuarter();
        weakAtAQuarterOfAnOddTone();
        weakAgainstItsOwnWavelength();
        notCalibrated();
        calibratedToZero();
        delayBeyondTheLongestTone();
        fewestAndMostSamples();
        calibratedAgain();
        calibratedOrder();
        Check.finish("ToneEdgesTest");
    }

    // The list is empty at first.
    private static void noTone() {
        Rows.play("no tone", "toneCount = 0", "wavelength 0 ! " + INDEX, "removeTone ! " + STATE, "beginPass ! " + STATE,
            "calibrate 1 ! " + STATE, "calibrate 20 ! " + STATE, "observe ! " + STATE, "addTone 1000 = 1",
            "removeTone = 0", "toneCount = 0", "removeTone ! " + STATE, "beginPass ! " + STATE, "calibrate 1 ! " + STATE);
    }

    // A list of at most 6 wavelengths
    private static void sixTones() {
        Rows.play("six tones", States.plus(States.SIX_TONES, "toneCount = 6", "addTone 1000 ! " + STATE,
            "wavelength 5 = 1001", "wavelength 6 ! " + INDEX, "removeTone = 5", "addTone 1000 = 6",
            "wavelength 5 = 1000", "addTone 1000 ! " + ARGUMENT, "toneCount = 6", "6*(removeTone)", "toneCount = 0"));
        Rows.play("the sixth and the seventh", "addTone 6000 = 1", "addTone 5000 = 2", "addTone 4000 = 3",
            "addTone 3000 = 4", "addTone 2000 = 5", "addTone 1999 = 6", "addTone 1998 ! " + STATE);
    }

    // Each one less than the one before
    private static void eachLessThanTheOneBefore() {
        Rows.play("one less, the same, one more", "addTone 5000 = 1", "addTone 5000 ! " + ARGUMENT,
            "addTone 5001 ! " + ARGUMENT, "addTone 4999 = 2", "addTone 4999 ! " + ARGUMENT, "addTone 5000 ! " + ARGUMENT,
            "addTone 4998 = 3", "wavelength 0 = 5000", "wavelength 1 = 4999", "wavelength 2 = 4998");
        Rows.play("none below the least", "addTone 1001 = 1", "addTone 1000 = 2", "addTone 999 ! " + ARGUMENT,
            "addTone 1000 ! " + ARGUMENT, "removeTone = 1", "addTone 1000 = 2");
    }

    private static void lessThanTheLastPresentOne() {
        Rows.play("a removed tone does not count", "addTone 5000", "addTone 3000", "removeTone = 1",
            "addTone 5000 ! " + ARGUMENT, "addTone 4999 = 2", "removeTone = 1", "removeTone = 0",
            "addTone 1000000000000 = 1");
        Rows.play("the last one alone is removed", "addTone 5000", "addTone 3000", "addTone 2000", "removeTone = 2",
            "wavelength 1 = 3000", "wavelength 2 ! " + INDEX, "addTone 3000 ! " + ARGUMENT, "addTone 2999 = 3");
    }

    private static void sixTonesMeasured() {
        // The estimates 342, 2345, 4344, 3345, 4344, 4336
        Rows.play("six tones for 12345", States.plus(States.SIX_TONES, "setTruth 12345 0", "beginPass", "observe",
            "phase 0 0 = 57", "phase 0 1 = 469", "phase 0 2 = 86", "phase 0 3 = 115", "phase 0 4 = 172",
            "phase 0 5 = 332", "phase 0 6 ! " + INDEX, "correction 0 0 = 0", "correction 0 1 = 2003",
            "correction 0 2 = 1999", "correction 0 3 = -999", "correction 0 4 = 999", "correction 0 5 = -8",
            "correction 0 6 ! " + INDEX, "isWeak 0 0 = false", "isWeak 0 1 = true", "isWeak 0 2 = true",
            "isWeak 0 3 = true", "isWeak 0 4 = true", "isWeak 0 5 = false", "isWeak 0 6 ! " + INDEX,
            "weakIn 0 1 = 1", "weakIn 0 5 = 0", "weakIn 0 6 ! " + INDEX, "rangeAfter 0 0 = 342",
            "rangeAfter 0 1 = 2345", "rangeAfter 0 2 = -1656", "rangeAfter 0 3 = -2655", "rangeAfter 0 4 = -1656",
            "rangeAfter 0 5 = -1664", "rangeAfter 0 6 ! " + INDEX, "range 0 = -1664"));
    }

    private static void oneToneMeasured() {
        Rows.play("one tone", "addTone 1000000", "setTruth 123456 0", "beginPass", "observe", "phase 0 0 = 123",
            "phase 0 1 ! " + INDEX, "rangeAfter 0 0 = 123000", "rangeAfter 0 1 ! " + INDEX, "range 0 = 123000",
            "correction 0 0 = 0", "correction 0 1 ! " + INDEX, "isWeak 0 0 = false", "isWeak 0 1 ! " + INDEX,
            "weakIn 0 0 = 0", "weakIn 0 1 ! " + INDEX);
    }

    // There are the stations 0 to 9. Each has a true delay, 0 at first.
    private static void eachStationHasItsDelay() {
        for (int station = 0; station < 10; station++) {
            int other = 9 - station;
            Rows.play("the delay of station " + station, "addTone 1000000", "addTone 1000", "setDelay " + station + " 4321 = 0",
                "setDelay " + other + " 77 = 0", "setStation " + station + " = 0", "calibrate 1 = 4321",
                "setStation " + other + " = " + station, "calibrate 1 = 77", "setDelay " + station + " 0 = 4321",
                "delayEstimate " + station + " = 4321");
        }
    }

    // One of them is the present station, station 0 at first.
    private static void presentStation() {
        Rows.play("station 0 at first", "addTone 1000000", "setDelay 0 5000", "calibrate 1 = 5000", "calibratedStation 0 = 0",
            "setStation 0 = 0", "setStation 9 = 0", "setStation 9 = 9", "setStation 10 ! " + ARGUMENT,
            "setStation -1 ! " + ARGUMENT, "calibrate 1 = 0", "calibratedStation 1 = 9");
    }

    private static void delaysAtTheEdges() {
        // 999999999 has the phases 0, 999 and 999: the estimates are 0, -1000000 and -1001000.
        Rows.play("the greatest delay", "addTone 1000000000000", "addTone 1000000000", "addTone 1000000",
            "setDelay 0 999999999", "calibrate 1 = -1001000", "setDelay 0 1000000000", "calibrate 1 = 1000000000",
            "setDelay 0 1000000001 ! " + ARGUMENT, "setDelay 0 0 = 1000000000", "calibrate 1 = 0",
            "setDelay 0 -1 ! " + ARGUMENT);
    }

    // 0 if the noise amplitude a is 0 (then nothing is drawn)
    private static void nothingDrawnWithoutNoise() {
        Rows.play("no noise", "addTone 1000000", "addTone 1000", "setSeed 7", "calibrate 20", "beginPass", "observe",
            "setSeed 7 = 7");
        Rows.play("no noise any more", "addTone 1000", "setNoise 1", "setNoise 0 = 1", "calibrate 1 = 0", "setSeed 0 = 0");
    }

    private static void drawnWithNoise() {
        // So many numbers from the state 0: 1, 2, 3, 20 and 120
        Rows.play("one number", "addTone 1000", "setNoise 1", "calibrate 1", "setSeed 0 = 12345");
        Rows.play("a number for each sample", "addTone 1000", "setNoise 30000", "calibrate 20", "setSeed 0 = 1157490780");
        Rows.play("a number for each tone", "addTone 3000", "addTone 2000", "addTone 1000", "setNoise 1", "beginPass",
            "observe", "setSeed 0 = -1492899873");
        Rows.play("both", States.plus(States.SIX_TONES, "setNoise 5", "calibrate 20", "setSeed 0 = -26606232"));
        Rows.play("the generator goes on", "addTone 1000", "setNoise 1", "calibrate 1", "beginPass", "observe",
            "setSeed 0 = -740551042");
    }

    // A number below 2 * a + 1 is drawn, and the noise is this number minus a.
    private static void leastAndGreatestNoise() {
        // The seeds are picked for what s >>> 16 becomes: 0, 60000, 60001 and 65535
        long[][] greatest = {{-59267453, 70}, {-1806195069, 130}, {2143069827, 70}, {286434947, 75}};
        for (long[] row : greatest) {
            Rows.play("the amplitude 30000 from " + row[0], "addTone 1000000", "setDelay 0 100000", "setNoise 30000",
                "setSeed " + row[0], "calibrate 1 = " + 1000 * row[1]);
        }
        // 0, 1, 2 and 3
        long[][] least = {{-59267453, 499}, {-404969853, 500}, {-750672253, 501}, {-1096374653, 499}};
        for (long[] row : least) {
            Rows.play("the amplitude 1 from " + row[0], "addTone 1000", "setDelay 0 500", "setNoise 1",
                "setSeed " + row[0], "calibrate 1 = " + row[1]);
        }
    }

    // (s >>> 16) % n
    private static void numberIsNotNegative() {
        // s >>> 16 becomes 32767 and 32768: the noises 2767 and 2768
        Rows.play("a state just below 2 to the 31st", "addTone 100000", "setNoise 30000", "setSeed -1861048701",
            "setDelay 0 10233", "calibrate 1 = 13000", "setSeed -1861048701", "setDelay 0 10232", "calibrate 1 = 12900");
        Rows.play("a negative state", "addTone 100000", "setNoise 30000", "setSeed 2088216195", "setDelay 0 10232",
            "calibrate 1 = 13000", "setSeed 2088216195", "setDelay 0 10231", "calibrate 1 = 12900");
    }

    // s becomes s * 1103515245 + 12345 in 32-bit int arithmetic.
    private static void stateWrapsAround() {
        long[][] states = {{0, 12345}, {1, 1103527590}, {-1, -1103502900}, {2147483647, 1043980748},
            {-2147483648, -2147471303}};
        for (long[] row : states) {
            Rows.play("the state " + row[0], "addTone 1000", "setNoise 1", "setSeed " + row[0], "calibrate 1",
                "setSeed 0 = " + row[1]);
        }
    }

    private static void noiseAroundZero() {
        // The noises -1, 0 and 1 from a range and a delay of 0, 1 and 999
        long[][] phases = {{-59267453, 999, 0, 998}, {-404969853, 0, 1, 999}, {-750672253, 1, 2, 0}};
        for (long[] row : phases) {
            Rows.play("noise around 0 from " + row[0], "addTone 1000", "setNoise 1", "beginPass", "setSeed " + row[0],
                "observe", "phase 0 0 = " + row[1], "setSeed " + row[0], "setDelay 0 1", "observe",
                "phase 1 0 = " + row[2], "setSeed " + row[0], "setDelay 0 999", "observe", "phase 2 0 = " + row[3]);
        }
    }

    // Each phase has a noise of its own, in the order of the tones.
    private static void noiseOfItsOwn() {
        // From the state 0, s >>> 16 becomes 0, then 54236: the noises are -30000, then 24236
        Rows.play("two tones", "addTone 1000000", "addTone 100000", "setDelay 0 30000", "setNoise 30000", "beginPass",
            "observe", "phase 0 0 = 0", "phase 0 1 = 542");
    }

    // Tone 0 has no correction (0) and is not weak.
    private static void toneZeroHasNoCorrection() {
        for (long truth : new long[] {0, 249999, 250000, 251000, 500000, 501000, 999999}) {
            Rows.play("tone 0 for " + truth, "addTone 1000000", "addTone 1000", "setTruth " + truth + " 0", "beginPass",
                "observe", "correction 0 0 = 0", "isWeak 0 0 = false", "weakIn 0 0 = 0");
        }
    }

    private static void weakOrNot(String wavelength, long[][] rows) {
        for (long[] row : rows) {
            Rows.play("weak at " + row[0] + " of " + wavelength, "addTone 1000000", "addTone " + wavelength,
                "setTruth " + row[0] + " 0", "beginPass", "observe", "correction 0 1 = " + row[1],
                "isWeak 0 1 = " + (row[2] == 1), "weakIn 0 1 = " + row[2]);
        }
    }

    // The tone is weak if 4 times the absolute value of its correction is greater than L(k).
    private static void weakAtAQuarter() {
        weakOrNot("1000", new long[][] {{249, 249, 0}, {250, 250, 0}, {251, 251, 1}, {500, 500, 1}, {501, -499, 1},
            {749, -251, 1}, {750, -250, 0}, {751, -249, 0}});
        weakOrNot("1004", new long[][] {{252, 251, 0}, {253, 252, 1}, {753, -251, 0}, {752, -253, 1}});
    }

    private static void weakAtAQuarterOfAnOddTone() {
        weakOrNot("1001", new long[][] {{251, 250, 0}, {252, 251, 1}});
        weakOrNot("1003", new long[][] {{251, 250, 0}, {252, 251, 1}});
    }

    private static void weakAgainstItsOwnWavelength() {
        Rows.play("not against a longer wavelength", "addTone 1000000", "addTone 900000", "addTone 1000", "setTruth 300 0",
            "beginPass", "observe", "correction 0 1 = 0", "correction 0 2 = 300", "isWeak 0 1 = false",
            "isWeak 0 2 = true", "weakIn 0 1 = 0", "weakIn 0 2 = 1");
        Rows.play("not against a shorter wavelength", "addTone 1000000", "addTone 100000", "addTone 1000",
            "setTruth 100900 0", "beginPass", "observe", "correction 0 1 = 900", "correction 0 2 = 0",
            "isWeak 0 1 = false", "isWeak 0 2 = false", "weakIn 0 1 = 0", "weakIn 0 2 = 0");
    }

    // A station that has not been calibrated has no delay estimate; where one is needed, 0 is used.
    private static void notCalibrated() {
        Rows.play("not calibrated", "addTone 1000000", "setDelay 0 5000", "setTruth 10000 0", "delayEstimate 0 ! " + NONE,
            "beginPass", "observe", "range 0 = 15000", "delayEstimate 0 ! " + NONE, "endPass", "setStation 1",
            "setDelay 1 2000", "calibrate 1 = 2000", "range 0 = 15000", "delayEstimate 0 ! " + NONE, "setStation 0",
            "calibrate 1 = 5000", "range 0 = 10000", "delayEstimate 0 = 5000", "delayEstimate 2 ! " + NONE);
    }

    private static void calibratedToZero() {
        Rows.play("an estimate of 0 is one", "addTone 1000000", "calibrate 1 = 0", "delayEstimate 0 = 0",
            "calibratedStation 0 = 0", "calibratedStation 1 ! " + INDEX, "delayEstimate 1 ! " + NONE);
    }

    private static void delayBeyondTheLongestTone() {
        long[][] delays = {{99899, 99800}, {99900, 99900}, {99999, 99900}, {100000, 0}, {100099, 0}, {100100, 100},
            {1000000000, 0}};
        for (long[] row : delays) {
            Rows.play("a delay of " + row[0], "addTone 100000", "setDelay 0 " + row[0], "calibrate 1 = " + row[1],
                "delayEstimate 0 = " + row[1]);
        }
    }

    private static void fewestAndMostSamples() {
        Rows.play("samples", "addTone 1000", "setDelay 0 12", "calibrate 0 ! " + ARGUMENT, "calibrate 1 = 12",
            "calibrate 20 = 12", "calibrate 21 ! " + ARGUMENT, "delayEstimate 0 = 12");
        // From the state 0 the noises are -30000, 24236, 12756, 24885, -26502 ..: the mean of one, two and three
        Rows.play("one sample with noise", "addTone 1000000", "setDelay 0 100000", "setNoise 30000", "calibrate 1 = 70000");
        Rows.play("two with noise", "addTone 1000000", "setDelay 0 100000", "setNoise 30000", "calibrate 2 = 97000");
        Rows.play("three with noise", "addTone 1000000", "setDelay 0 100000", "setNoise 30000", "calibrate 3 = 102000");
    }

    private static void calibratedAgain() {
        Rows.play("the latest calibration alone", "addTone 1000000", "setDelay 0 1000", "calibrate 5 = 1000",
            "setDelay 0 9000", "delayEstimate 0 = 1000", "calibrate 1 = 9000", "delayEstimate 0 = 9000",
            "calibratedStation 0 = 0", "calibratedStation 1 ! " + INDEX);
    }

    // The stations are ordered by the time of their first calibration.
    private static void calibratedOrder() {
        Rows.play("the first calibration", "addTone 1000", "calibratedStation 0 ! " + INDEX, "setStation 9",
            "calibratedStation 0 ! " + INDEX, "calibrate 1", "setStation 0", "calibrate 1", "setStation 9", "calibrate 1",
            "setStation 5", "calibrate 1", "calibratedStation 0 = 9", "calibratedStation 1 = 0", "calibratedStation 2 = 5",
            "calibratedStation 3 ! " + INDEX, "calibratedStation -1 ! " + INDEX);
        Rows.play("a refused calibration is none", "calibrate 1 ! " + STATE, "calibratedStation 0 ! " + INDEX,
            "addTone 1000", "calibrate 0 ! " + ARGUMENT, "calibratedStation 0 ! " + INDEX, "beginPass",
            "calibrate 1 ! " + STATE, "calibratedStation 0 ! " + INDEX, "endPass", "setStation 4", "calibrate 1",
            "calibratedStation 0 = 4");
    }
}
