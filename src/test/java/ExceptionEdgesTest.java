/**
 * EXCEPTIONS: if several exceptions apply to a call, the one that is named first in its comment is thrown. Rows looks
 * after it that a call that throws an exception changes nothing.
 */
final class ExceptionEdgesTest {
    private static final String ARGUMENT = "IllegalArgumentException";
    private static final String STATE = "IllegalStateException";
    private static final String INDEX = "IndexOutOfBoundsException";
    private static final String NONE = "NoSuchElementException";
    private static final String FEW = "ArithmeticException";

    public static void main(String[] args) {
        setTruth();
        addSegment();
        setStation();
        addToneToSix();
        addToneInAPass();
        addToneToSixInAPass();
        removeTone();
        setDopplerWavelength();
        calibrateWithoutTones();
        calibrateInAPass();
        delayEstimate();
        beginPass();
        observe();
        addSlip();
        predictedAndInnovation();
        meanAndVariance();
        lines();
        residual();
        join();
        twoWrongParameters();
        twoWrongIndices();
        Check.finish("ExceptionEdgesTest");
    }

    /** Each of the calls is refused with the exception, from the state. */
    private static void refused(String what, String[] state, String exception, String... calls) {
        for (String call : calls) {
            Rows.play(what, States.plus(state, call + " ! " + exception));
        }
    }

    private static void setTruth() {
        refused("2 in a pass, a parameter wrong", States.RUNNING, ARGUMENT, "setTruth -1 0", "setTruth 10000000000001 0",
            "setTruth 0 10000001", "setTruth 0 -10000001", "setTruth -1 10000001");
        refused("2 in a pass", States.RUNNING, STATE, "setTruth 0 0", "setTruth 10000000000000 10000000",
            "setTruth 0 -10000000");
        refused("2 in a pass without observations", States.RUNNING_EMPTY, STATE, "setTruth 0 0");
    }

    private static void addSegment() {
        refused("3 full, a parameter wrong", States.FULL_SCRIPT, ARGUMENT, "addSegment 0 0", "addSegment 1001 0",
            "addSegment 1 10001", "addSegment 1 -10001", "addSegment 0 10001");
        refused("3 full", States.FULL_SCRIPT, STATE, "addSegment 1 0", "addSegment 1000 10000", "addSegment 1 -10000");
    }

    private static void setStation() {
        refused("12 in a pass, station wrong", States.RUNNING, ARGUMENT, "setStation -1", "setStation 10");
        refused("12 in a pass", States.RUNNING, STATE, "setStation 0", "setStation 9", "setStation 3");
    }

    private static void addToneToSix() {
        refused("13 six tones, wavelength wrong", States.SIX_TONES, ARGUMENT, "addTone 999", "addTone 1000000000001",
            "addTone 1001", "addTone 1002", "addTone 7000", "addTone -1000");
        refused("13 six tones", States.SIX_TONES, STATE, "addTone 1000");
    }

    private static void addToneInAPass() {
        String[] running = {"addTone 5000", "beginPass"};
        refused("13 in a pass, wavelength wrong", running, ARGUMENT, "addTone 999", "addTone 1000000000001", "addTone 5000",
            "addTone 5001");
        refused("13 in a pass", running, STATE, "addTone 1000", "addTone 4999");
    }

    private static void addToneToSixInAPass() {
        String[] running = States.plus(States.SIX_TONES, "beginPass");
        refused("13 six tones in a pass, wavelength wrong", running, ARGUMENT, "addTone 999", "addTone 1001");
        refused("13 six tones in a pass", running, STATE, "addTone 1000");
    }

    private static void removeTone() {
        refused("14 no tones", States.NEW, STATE, "removeTone");
        refused("14 in a pass", States.RUNNING, STATE, "removeTone");
        refused("14 in a pass with one tone", new String[] {"addTone 1000", "beginPass"}, STATE, "removeTone");
    }

    private static void setDopplerWavelength() {
        refused("19 in a pass, wavelength wrong", States.RUNNING, ARGUMENT, "setDopplerWavelength 0",
            "setDopplerWavelength 10001", "setDopplerWavelength -1");
        refused("19 in a pass", States.RUNNING, STATE, "setDopplerWavelength 1", "setDopplerWavelength 10000",
            "setDopplerWavelength 70");
    }

    private static void calibrateWithoutTones() {
        String[] noTones = {"setNoise 9", "setSeed 4"};
        refused("20 no tones, samples wrong", noTones, ARGUMENT, "calibrate 0", "calibrate 21", "calibrate -1");
        refused("20 no tones", noTones, STATE, "calibrate 1", "calibrate 20");
        refused("20 all tones removed", States.plus(States.BUSY, "3*(removeTone)"), STATE, "calibrate 1");
    }

    private static void calibrateInAPass() {
        refused("20 in a pass, samples wrong", States.RUNNING, ARGUMENT, "calibrate 0", "calibrate 21");
        refused("20 in a pass", States.RUNNING, STATE, "calibrate 1", "calibrate 20");
        refused("20 in a pass without observations", States.RUNNING_EMPTY, STATE, "calibrate 1");
    }

    private static void delayEstimate() {
        refused("21 no such station", States.BUSY, ARGUMENT, "delayEstimate -1", "delayEstimate 10");
        refused("21 not calibrated", States.BUSY, NONE, "delayEstimate 1", "delayEstimate 2", "delayEstimate 9");
    }

    private static void beginPass() {
        refused("23 no tones", States.NEW, STATE, "beginPass");
        refused("23 one is running", States.RUNNING, STATE, "beginPass");
        refused("23 twenty passes", States.TWENTY_PASSES, STATE, "beginPass");
        refused("23 twenty passes and no tones", States.plus(States.TWENTY_PASSES, "removeTone"), STATE, "beginPass");
        refused("23 the twentieth is running", new String[] {"addTone 1000", "19*(beginPass; endPass)", "beginPass"}, STATE,
            "beginPass");
    }

    private static void observe() {
        refused("25 no pass", States.NEW, STATE, "observe");
        refused("25 no pass is running", States.BUSY, STATE, "observe");
        refused("25 a hundred", States.HUNDRED_OBSERVATIONS, STATE, "observe");
        refused("25 a hundred and no pass", States.plus(States.HUNDRED_OBSERVATIONS, "endPass"), STATE, "observe");
    }

    private static void addSlip() {
        refused("26 no pass, cycles wrong", States.NEW, ARGUMENT, "addSlip 1001", "addSlip -1001");
        refused("26 no pass", States.NEW, STATE, "addSlip 0", "addSlip 1000", "addSlip -1000");
        refused("26 between passes, cycles wrong", States.BUSY, ARGUMENT, "addSlip 1001", "addSlip -1001");
        refused("26 between passes", States.BUSY, STATE, "addSlip 1", "addSlip 1000", "addSlip -1000");
        refused("24 between passes", States.BUSY, STATE, "endPass");
    }

    private static void predictedAndInnovation() {
        for (String method : new String[] {"predicted", "innovation"}) {
            refused("no observations", States.NEW, INDEX, method + " 0");
            refused("no such observation", States.RUNNING, INDEX, method + " -1", method + " 7");
            // 0, 2 and 5 are the first ones of their passes.
            refused("the first of a pass", States.RUNNING, NONE, method + " 0", method + " 2", method + " 5");
        }
    }

    private static void meanAndVariance() {
        String[] one = States.plus(States.RUNNING_EMPTY, "observe");
        for (String method : new String[] {"meanInnovation", "varianceInnovation"}) {
            refused("no passes", States.NEW, INDEX, method + " 0");
            refused("no such pass", States.RUNNING_EMPTY, INDEX, method + " -1", method + " 3");
            refused("a pass without observations", States.RUNNING_EMPTY, NONE, method + " 2");
            refused("a pass with one observation", one, NONE, method + " 2");
            Rows.play("a pass with two", States.plus(one, "observe", method + " 2"));
        }
    }

    private static void lines() {
        String[] oneTime = States.plus(States.RUNNING_EMPTY, "observe", "observe");
        for (String method : new String[] {"lineRate", "lineOffset"}) {
            refused("no passes", States.NEW, INDEX, method + " 0");
            refused("no such pass", States.RUNNING_EMPTY, INDEX, method + " -1", method + " 3");
            refused("a pass without observations", States.RUNNING_EMPTY, FEW, method + " 2");
            refused("a pass at one time", oneTime, FEW, method + " 2");
            Rows.play("a pass at two times", States.plus(oneTime, "run 1", "observe", method + " 2"));
        }
    }

    private static void residual() {
        String[] oneTime = States.plus(States.RUNNING_EMPTY, "observe", "observe");
        refused("50 no observations", States.RUNNING_EMPTY, INDEX, "residual 5", "residual -1");
        refused("50 no such observation", oneTime, INDEX, "residual 7", "residual -1");
        refused("50 at one time", oneTime, FEW, "residual 5", "residual 6");
        Rows.play("50 at two times", States.plus(oneTime, "run 1", "observe", "residual 5", "residual 6", "residual 7"));
    }

    private static void join() {
        String[] empty = {"addTone 1000", "beginPass"};
        refused("51 no passes", States.NEW, INDEX, "join 0", "join 1");
        refused("51 pass 0 without observations", empty, INDEX, "join 0", "join 1", "join -1");
        refused("51 pass 0 with one observation", States.plus(empty, "observe"), INDEX, "join 0", "join 1");
        refused("51 no such pass", States.RUNNING_EMPTY, INDEX, "join 0", "join 3", "join -1");
        refused("51 no observations", States.RUNNING_EMPTY, STATE, "join 2");
        refused("51 after the empty pass", States.plus(States.RUNNING_EMPTY, "endPass", "beginPass", "observe"), STATE,
            "join 3", "join 2");
        refused("51 after a pass with one", States.plus(States.RUNNING_EMPTY, "observe", "endPass", "beginPass", "observe"),
            STATE, "join 3");
    }

    private static void twoWrongParameters() {
        refused("3 both", States.BUSY, ARGUMENT, "addSegment 0 10001", "addSegment 1001 -10001");
        refused("2 both", States.BUSY, ARGUMENT, "setTruth -1 10000001", "setTruth 10000000000001 -10000001");
        refused("2 the second alone", States.BUSY, ARGUMENT, "setTruth 5 10000001");
        refused("11 both", States.BUSY, ARGUMENT, "setDelay -1 -1", "setDelay 10 1000000001");
        refused("11 the second alone", States.BUSY, ARGUMENT, "setDelay 3 -1", "setDelay 3 1000000001");
    }

    private static void twoWrongIndices() {
        for (String method : new String[] {"phase", "rangeAfter", "correction", "isWeak"}) {
            refused("both", States.BUSY, INDEX, method + " -1 -1", method + " 5 3", method + " 5 -1", method + " -1 3");
        }
        refused("both", States.BUSY, INDEX, "weakIn -1 -1", "weakIn 2 3", "weakIn 2 -1", "weakIn -1 3");
    }
}
