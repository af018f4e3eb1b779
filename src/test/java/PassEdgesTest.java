/** PASSES AND OBSERVATIONS: no pass, passes with no, one and two observations, the most of both, and equal times. */
final class PassEdgesTest {
    private static final String STATE = "IllegalStateException";
    private static final String INDEX = "IndexOutOfBoundsException";
    private static final String NONE = "NoSuchElementException";
    private static final String FEW = "ArithmeticException";

    public static void main(String[] args) {
        noPass();
        mostPasses();
        atMostOneRunning();
        passKeepsItsStation();
        passKeepsItsTones();
        passKeepsItsDopplerWavelength();
        notKeptByAPass();
        mostObservationsInOnePass();
        mostObservationsInAll();
        passWithoutObservations();
        passWithOneObservation();
        passWithTwoObservations();
        firstObservationOfEachPass();
        observationsOfEachPass();
        observationKeepsWhatWasMeasured();
        equalTimesInALine();
        differentTimes();
        countAtTheBeginning();
        sumOfSlips();
        slipThreshold();
        greatestSlipThreshold();
        windowAndPlace();
        greatestWindow();
        presentValues();
        Check.finish("PassEdgesTest");
    }

    private static void noPass() {
        String[] refused = {"endPass ! " + STATE, "observe ! " + STATE, "addSlip 0 ! " + STATE,
            "observations 0 ! " + INDEX, "ambiguity 0 ! " + INDEX, "slips 0 ! " + INDEX, "weakIn 0 0 ! " + INDEX,
            "meanInnovation 0 ! " + INDEX, "varianceInnovation 0 ! " + INDEX, "lineRate 0 ! " + INDEX,
            "lineOffset 0 ! " + INDEX, "join 0 ! " + INDEX, "join 1 ! " + INDEX, "range 0 ! " + INDEX, "passCount = 0",
            "longestChain = 0", "distinctTimes = 0"};
        Rows.play("no pass", refused);
        Rows.play("no pass, but tones", States.plus(new String[] {"addTone 1000"}, refused));
    }

    // Passes, at most 20, are numbered from 0.
    private static void mostPasses() {
        Rows.play("twenty passes", "addTone 1000", "18*(beginPass; endPass)", "passCount = 18", "beginPass = 18", "endPass",
            "passCount = 19", "beginPass = 19", "passCount = 20", "beginPass ! " + STATE, "observe = 0", "endPass = 1",
            "beginPass ! " + STATE, "endPass ! " + STATE, "observe ! " + STATE, "addSlip 1 ! " + STATE, "passCount = 20",
            "observations 19 = 1", "observations 20 ! " + INDEX, "longestChain = 1", "removeTone = 0",
            "beginPass ! " + STATE);
    }

    // At most one pass is running.
    private static void atMostOneRunning() {
        Rows.play("one is running", "addTone 1000", "beginPass = 0", "beginPass ! " + STATE, "observe = 0",
            "beginPass ! " + STATE, "addSlip 3 = 3", "beginPass ! " + STATE, "addSlip 0 = 3", "passCount = 1", "endPass = 1",
            "endPass ! " + STATE, "observe ! " + STATE, "addSlip 0 ! " + STATE, "beginPass = 1", "passCount = 2");
    }

    // A pass keeps the station; while it runs, it cannot be changed.
    private static void passKeepsItsStation() {
        Rows.play("the station of a pass", "addTone 1000000", "setDelay 2 3000", "setDelay 7 50000", "setStation 2",
            "setTruth 10000 0", "beginPass", "setStation 7 ! " + STATE, "setStation 2 ! " + STATE, "observe",
            "setStation 7 ! " + STATE, "endPass", "setStation 7 = 2", "range 0 = 13000", "calibrate 1 = 50000",
            "range 0 = 13000", "setStation 2 = 7", "calibrate 1 = 3000", "setStation 7 = 2", "range 0 = 10000");
    }

    private static void passKeepsItsTones() {
        Rows.play("the tones of a pass", "addTone 1000000", "addTone 1000", "setTruth 12345 0", "beginPass",
            "addTone 1000 ! IllegalArgumentException", "removeTone ! " + STATE, "toneCount = 2", "observe",
            "removeTone ! " + STATE, "endPass", "removeTone = 1", "removeTone = 0", "phase 0 0 = 12", "phase 0 1 = 345",
            "phase 0 2 ! " + INDEX, "range 0 = 12345", "weakIn 0 1 = 1", "weakIn 0 2 ! " + INDEX, "addTone 5000 = 1",
            "range 0 = 12345", "beginPass", "addTone 4000 ! " + STATE, "observe", "range 1 = 2345", "phase 1 1 ! " + INDEX,
            "range 0 = 12345");
    }

    private static void passKeepsItsDopplerWavelength() {
        Rows.play("the Doppler wavelength of a pass", "addTone 1000000", "setDopplerWavelength 10", "setTruth 0 1000",
            "beginPass", "setDopplerWavelength 1 ! " + STATE, "setDopplerWavelength 10 ! " + STATE, "observe", "run 1",
            "observe", "endPass", "setDopplerWavelength 1 = 10", "dopplerCount 1 = 100", "predicted 1 = 1000",
            "innovation 1 = 0", "smoothed 1 = 1000", "beginPass", "run 1", "observe", "dopplerCount 2 = 1000");
    }

    private static void notKeptByAPass() {
        Rows.play("what may be changed in a pass", "addTone 1000000", "addTone 1000", "beginPass", "setDelay 0 5 = 0",
            "setNoise 1 = 0", "setNoise 0 = 1", "setSeed 3 = 0", "setAPriori 7 = 0", "setSlipThreshold 8 = 1000",
            "setWindow 9 = 10", "addSegment 1 0 = 1", "clearScript = 1", "run 1 = 1", "setAPriori 0 = 7", "observe = 0",
            "range 0 = 5", "setDelay 0 6 = 5", "observe = 1", "range 1 = 6", "range 0 = 5");
    }

    // Observations, at most 100 in all, are numbered from 0.
    private static void mostObservationsInOnePass() {
        Rows.play("a hundred in one pass", "addTone 1000", "beginPass", "99*(observe)", "observe = 99", "observe ! " + STATE,
            "observations 0 = 100", "observationTime 99 = 0", "observationTime 100 ! " + INDEX, "distinctTimes = 1",
            "addSlip 2 = 2", "run 1 = 1", "observe ! " + STATE, "endPass = 100", "beginPass = 1", "observe ! " + STATE,
            "observations 1 = 0", "endPass = 0", "observe ! " + STATE);
    }

    private static void mostObservationsInAll() {
        Rows.play("a hundred in all", States.plus(States.HUNDRED_OBSERVATIONS, "observations 0 = 60", "observations 1 = 40",
            "observationPass 59 = 0", "observationPass 60 = 1", "observationPass 99 = 1", "observationPass 100 ! " + INDEX,
            "observationTime 0 = 0", "observationTime 59 = 59", "observationTime 60 = 60", "observationTime 99 = 99",
            "distinctTimes = 100", "observe ! " + STATE, "endPass = 40", "beginPass = 2", "observe ! " + STATE,
            "endPass = 0"));
        Rows.play("the hundredth in the next pass", "addTone 1000", "beginPass", "99*(observe)", "endPass = 99",
            "beginPass", "observe = 99", "observe ! " + STATE, "endPass = 1", "observationPass 99 = 1");
    }

    private static void passWithoutObservations() {
        String[] empty = {"observations 0 = 0", "slips 0 = 0", "weakIn 0 0 = 0", "weakIn 0 1 = 0", "weakIn 0 2 ! " + INDEX,
            "meanInnovation 0 ! " + NONE, "varianceInnovation 0 ! " + NONE, "lineRate 0 ! " + FEW, "lineOffset 0 ! " + FEW,
            "ambiguity 0 = 0", "longestChain = 1", "distinctTimes = 0", "range 0 ! " + INDEX, "residual 0 ! " + INDEX,
            "predicted 0 ! " + INDEX};
        String[] running = {"addTone 1000000", "addTone 1000", "beginPass", "addSlip 5", "run 1"};
        Rows.play("running, without observations", States.plus(running, empty));
        Rows.play("ended without observations", States.plus(States.plus(running, "endPass = 0"), empty));
        Rows.play("between others", "addTone 1000", "beginPass", "observe", "endPass", "beginPass", "endPass = 0", "beginPass",
            "observe = 1", "observations 1 = 0", "slips 1 = 0", "meanInnovation 1 ! " + NONE, "lineRate 1 ! " + FEW,
            "observationPass 1 = 2", "predicted 1 ! " + NONE, "smoothed 1 = 0", "longestChain = 1");
    }

    private static void passWithOneObservation() {
        Rows.play("one observation", "addTone 1000000", "addTone 1000", "setTruth 12700 0", "beginPass", "addSlip 1000",
            "observe = 0", "observations 0 = 1", "slips 0 = 0", "setSlipThreshold 0", "slips 0 = 0", "weakIn 0 1 = 1",
            "meanInnovation 0 ! " + NONE, "varianceInnovation 0 ! " + NONE, "lineRate 0 ! " + FEW, "lineOffset 0 ! " + FEW,
            "residual 0 ! " + FEW, "residual 1 ! " + INDEX, "predicted 0 ! " + NONE, "innovation 0 ! " + NONE,
            "range 0 = 11700", "smoothed 0 = 11700", "setWindow 1", "smoothed 0 = 11700", "distinctTimes = 1",
            "endPass = 1", "meanInnovation 0 ! " + NONE, "slips 0 = 0");
    }

    private static void passWithTwoObservations() {
        Rows.play("two observations", "addTone 1000000", "addTone 1000", "setDopplerWavelength 1", "setTruth 12400 0",
            "beginPass", "observe", "addSlip 3", "run 1", "observe", "observations 0 = 2", "slips 0 = 0",
            "innovation 1 = -3", "meanInnovation 0 = -3.0", "varianceInnovation 0 = 0.0", "setSlipThreshold 2",
            "slips 0 = 1", "lineRate 0 = 0.0", "lineOffset 0 = 0.0", "residual 0 = 0.0", "residual 1 = 0.0",
            "predicted 0 ! " + NONE, "predicted 1 = 12403", "smoothed 1 = 12401", "weakIn 0 1 = 2");
    }

    // The first observation of a pass has neither a predicted range nor an innovation; its smoothed range is its range.
    private static void firstObservationOfEachPass() {
        Rows.play("the first of two passes", "addTone 1000000", "setTruth 5000 1000", "beginPass", "observe", "observe",
            "endPass", "run 3", "beginPass", "addSlip 9", "observe", "observe", "predicted 0 ! " + NONE,
            "innovation 0 ! " + NONE, "predicted 1 = 5000", "innovation 1 = 0", "predicted 2 ! " + NONE,
            "innovation 2 ! " + NONE, "predicted 3 = 8000", "innovation 3 = 0", "smoothed 0 = 5000", "smoothed 2 = 8000",
            "predicted 4 ! " + INDEX, "innovation 4 ! " + INDEX, "predicted -1 ! " + INDEX, "innovation -1 ! " + INDEX,
            "slips 1 = 0", "meanInnovation 1 = 0.0");
    }

    // Each belongs to the pass that is running when it is made.
    private static void observationsOfEachPass() {
        Rows.play("passes with 0, 1, 2 and 0", "addTone 1000", "beginPass", "endPass = 0", "beginPass", "observe", "endPass = 1",
            "beginPass", "observe", "observe", "endPass = 2", "beginPass", "observations 0 = 0", "observations 1 = 1",
            "observations 2 = 2", "observations 3 = 0", "observationPass 0 = 1", "observationPass 1 = 2",
            "observationPass 2 = 2", "observe = 3", "observationPass 3 = 3", "observations 3 = 1", "observations 2 = 2");
    }

    // It keeps the time, the phases of all tones for the true range, and the Doppler count.
    private static void observationKeepsWhatWasMeasured() {
        Rows.play("what was measured", "addTone 1000000", "addTone 1000", "setTruth 12345 500", "run 2", "beginPass",
            "observe", "setDelay 0 99", "setNoise 30000", "setSeed 5", "addSlip 8", "run 7", "observe", "endPass",
            "setTruth 0 0", "removeTone", "setDopplerWavelength 3", "observationTime 0 = 2", "phase 0 0 = 13",
            "phase 0 1 = 345", "dopplerCount 0 = 0", "observationTime 1 = 9", "dopplerCount 1 = 43");
    }

    private static void equalTimesInALine() {
        String[] begun = {"addTone 1000000", "setTruth 0 1000", "beginPass", "observe"};
        String[] equal = States.plus(begun, "3*(observe)", "lineRate 0 ! " + FEW, "lineOffset 0 ! " + FEW,
            "residual 0 ! " + FEW, "residual 3 ! " + FEW);
        Rows.play("four at one time", equal);
        // t: 0, 0, 0, 0, 1; y: 0, 0, 0, 0, 1000
        Rows.play("and one at another", States.plus(equal, "run 1", "observe", "lineRate 0 = 1000.0", "lineOffset 0 = 0.0",
            "residual 4 = 0.0"));
        // t: 0, 1, 1; y: 0, 1000, 1000
        Rows.play("the last two at one time", States.plus(begun, "run 1", "observe", "observe", "lineRate 0 = 1000.0",
            "lineOffset 0 = 0.0", "residual 0 = 0.0", "residual 2 = 0.0"));
        Rows.play("two times, but in two passes", States.plus(begun, "endPass", "run 1", "beginPass", "observe",
            "lineRate 0 ! " + FEW, "lineRate 1 ! " + FEW, "lineOffset 1 ! " + FEW, "residual 0 ! " + FEW,
            "residual 1 ! " + FEW, "run 1", "observe", "lineRate 0 ! " + FEW, "lineRate 1 = 1000.0", "residual 2 = 0.0"));
    }

    // At how many different times observations have been made
    private static void differentTimes() {
        Rows.play("different times", "addTone 1000", "distinctTimes = 0", "run 1", "beginPass", "distinctTimes = 0",
            "observe", "distinctTimes = 1", "observe", "distinctTimes = 1", "endPass", "beginPass", "observe",
            "distinctTimes = 1", "run 1", "distinctTimes = 1", "observe", "distinctTimes = 2", "endPass", "run 1000",
            "distinctTimes = 2", "beginPass", "endPass", "beginPass", "observe", "distinctTimes = 3", "observe",
            "distinctTimes = 3");
        Rows.play("at the time 0", "addTone 1000", "beginPass", "observe", "distinctTimes = 1", "run 1", "observe",
            "distinctTimes = 2");
    }

    // Minus the value of floor(true range / W) at the beginning of the pass
    private static void countAtTheBeginning() {
        Rows.play("from the beginning of the pass", "addTone 1000000", "setTruth 99 1", "beginPass", "observe", "run 1",
            "observe", "dopplerCount 0 = 0", "dopplerCount 1 = 1", "endPass", "beginPass", "observe", "dopplerCount 2 = 0",
            "run 99", "observe", "dopplerCount 3 = 0", "run 1", "observe", "dopplerCount 4 = 1");
        Rows.play("not from the first observation", "addTone 1000000", "setTruth 0 1000", "beginPass", "run 3", "observe",
            "dopplerCount 0 = 30");
        Rows.play("nor from an earlier pass", "addTone 1000000", "setTruth 0 1000", "beginPass", "endPass", "run 3",
            "beginPass", "observe", "dopplerCount 0 = 0");
        Rows.play("the greatest Doppler wavelength", "addTone 1000000", "setDopplerWavelength 10000", "setTruth 9999 1",
            "beginPass", "observe", "run 1", "observe", "run 9", "observe", "dopplerCount 0 = 0", "dopplerCount 1 = 1",
            "dopplerCount 2 = 1");
        Rows.play("the least Doppler wavelength", "addTone 1000000", "setDopplerWavelength 1", "setTruth 0 -1", "beginPass",
            "observe", "run 1", "observe", "dopplerCount 0 = 0", "dopplerCount 1 = -1");
        Rows.play("the greatest range", "addTone 1000000", "setDopplerWavelength 1", "setTruth 10000000000000 -10000000",
            "beginPass", "observe", "run 1", "observe", "dopplerCount 0 = 0", "dopplerCount 1 = -10000000");
    }

    // Plus the sum of all slips that were added during the pass so far
    private static void sumOfSlips() {
        Rows.play("slips", "addTone 1000", "beginPass", "addSlip 0 = 0", "addSlip 1000 = 1000", "observe", "addSlip -1000 = 0",
            "observe", "addSlip -1000 = -1000", "addSlip -1000 = -2000", "observe", "addSlip 5 = -1995", "endPass",
            "dopplerCount 0 = 1000", "dopplerCount 1 = 0", "dopplerCount 2 = -2000", "addSlip 1 ! " + STATE, "beginPass",
            "observe", "dopplerCount 3 = 0", "addSlip 7 = 7", "observe", "dopplerCount 4 = 7", "dopplerCount 2 = -2000");
    }

    // Greater than the slip threshold (1000 at first)
    private static void slipThreshold() {
        String[] made = {"addTone 1000000", "setDopplerWavelength 1", "beginPass", "observe", "addSlip 1000", "observe",
            "addSlip 1", "observe", "addSlip 1000", "addSlip 1", "observe", "addSlip -1000", "observe", "addSlip -1000",
            "addSlip -1", "observe", "observe"};
        Rows.play("slips at the threshold", States.plus(made, "innovation 1 = -1000", "innovation 2 = -1",
            "innovation 3 = -1001", "innovation 4 = 1000", "innovation 5 = 1001", "innovation 6 = 0", "slips 0 = 2",
            "setSlipThreshold 1000 = 1000", "slips 0 = 2", "setSlipThreshold 999", "slips 0 = 4", "setSlipThreshold 1001",
            "slips 0 = 0", "setSlipThreshold 0", "slips 0 = 5", "setSlipThreshold 1", "slips 0 = 4",
            "setSlipThreshold 1000000000", "slips 0 = 0"));
    }

    private static void greatestSlipThreshold() {
        String[] made = {"addTone 1000", "setDopplerWavelength 10000", "setSlipThreshold 1000000000"};
        Rows.play("at the greatest threshold", States.plus(made, "beginPass", "observe", "100*(addSlip 1000)", "observe",
            "100*(addSlip -1000)", "observe", "innovation 1 = -1000000000", "innovation 2 = 1000000000", "slips 0 = 0",
            "setSlipThreshold 999999999", "slips 0 = 2"));
        Rows.play("beyond the greatest threshold", States.plus(made, "setTruth 5 -1", "beginPass", "observe", "run 1",
            "100*(addSlip 1000)", "observe", "innovation 1 = -1000000001", "slips 0 = 1"));
    }

    // n is the lesser of i + 1 and the window (10 at first).
    private static void windowAndPlace() {
        String[] made = {"addTone 1000000", "beginPass", "observe", "3*(addSlip 7; observe)"};
        long[][] rows = {{1, 0, 0, 0}, {2, 350, 525, 612}, {3, 350, 700, 933}, {4, 350, 700, 1050}, {5, 350, 700, 1050},
            {50, 350, 700, 1050}};
        for (long[] row : rows) {
            Rows.play("window " + row[0], States.plus(made, "setWindow " + row[0], "smoothed 0 = 0",
                "smoothed 1 = " + row[1], "smoothed 2 = " + row[2], "smoothed 3 = " + row[3]));
        }
        // 350 * i up to the place 9, then 9 * (3150 + 700) / 10 and 9 * (3465 + 700) / 10
        Rows.play("the window at first", "addTone 1000000", "beginPass", "observe", "11*(addSlip 7; observe)",
            "smoothed 8 = 2800", "smoothed 9 = 3150", "smoothed 10 = 3465", "smoothed 11 = 3748", "setWindow 10 = 10",
            "smoothed 11 = 3748", "setWindow 11", "smoothed 10 = 3500");
    }

    private static void greatestWindow() {
        String[] made = {"addTone 1000000", "beginPass", "observe", "51*(addSlip 7; observe)"};
        Rows.play("the greatest window", States.plus(made, "setWindow 50", "smoothed 48 = 16800", "smoothed 49 = 17150",
            "smoothed 50 = 17493", "setWindow 49", "smoothed 48 = 16800", "smoothed 49 = 17142"));
    }

    // Delay estimates and the a priori range always have their present values.
    private static void presentValues() {
        Rows.play("present values", "addTone 1000000", "setDelay 0 5000", "setTruth 300000 0", "beginPass", "observe",
            "range 0 = 305000", "setAPriori 805000", "range 0 = 1305000", "setAPriori 804999", "range 0 = 305000",
            "endPass", "calibrate 1 = 5000", "range 0 = 1300000", "setAPriori 799999", "range 0 = 300000",
            "setDelay 0 6000", "range 0 = 300000", "calibrate 1 = 6000", "range 0 = 1299000", "rangeAfter 0 0 = 1299000");
    }
}
