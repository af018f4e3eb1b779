import java.util.ArrayList;
import java.util.List;

/**
 * The least and the greatest value of each parameter of the face, what lies just outside them and far outside them,
 * the exception that is named for it, and that such a call changes nothing. In a call, # is the parameter's place.
 */
final class ParameterEdgesTest {
    private static final String ARGUMENT = "IllegalArgumentException";
    private static final String INDEX = "IndexOutOfBoundsException";
    private static final String NONE = "NoSuchElementException";
    private static final String FEW = "ArithmeticException";

    public static void main(String[] args) {
        motion();
        stations();
        tones();
        settings();
        slips();
        whatWasSetStands();
        delayEstimate();
        tonesByIndex();
        stationsByIndex();
        passesByIndex();
        observationsByIndex();
        tonesOfObservations();
        nothingByIndex();
        Check.finish("ParameterEdgesTest");
    }

    private static void motion() {
        within("2 range", States.BUSY, "setTruth # 5", 0, 10000000000000L, ARGUMENT);
        within("2 rate", States.BUSY, "setTruth 5 #", -10000000, 10000000, ARGUMENT);
        for (String[] state : new String[][] {States.NEW, States.BUSY, States.RUNNING}) {
            within("3 seconds", state, "addSegment # 5", 1, 1000, ARGUMENT);
            within("3 acceleration", state, "addSegment 5 #", -10000, 10000, ARGUMENT);
            within("5 seconds", state, "run #", 1, 1000, ARGUMENT);
            within("9 seconds", state, "trueRangeIn #", 0, 1000, ARGUMENT);
            within("10 seconds", state, "closestApproach #", 0, 1000, ARGUMENT);
        }
    }

    private static void stations() {
        for (String[] state : new String[][] {States.NEW, States.BUSY, States.RUNNING}) {
            within("11 station", state, "setDelay # 5", 0, 9, ARGUMENT);
            within("11 delay", state, "setDelay 0 #", 0, 1000000000L, ARGUMENT);
            within("11 delay of the last station", state, "setDelay 9 #", 0, 1000000000L, ARGUMENT);
        }
        within("12 station", States.NEW, "setStation #", 0, 9, ARGUMENT);
        within("12 station", States.BUSY, "setStation #", 0, 9, ARGUMENT);
        within("20 samples", States.BUSY, "calibrate #", 1, 20, ARGUMENT);
        within("20 samples", new String[] {"addTone 1000"}, "calibrate #", 1, 20, ARGUMENT);
    }

    private static void tones() {
        within("13 first tone", States.NEW, "addTone #", 1000, 1000000000000L, ARGUMENT);
        within("13 less than the last", States.BUSY, "addTone #", 1000, 999, ARGUMENT);
        within("13 less than the last", States.plus(States.BUSY, "removeTone"), "addTone #", 1000, 99999, ARGUMENT);
        within("13 less than the greatest", new String[] {"addTone 1000000000000"}, "addTone #", 1000, 999999999999L,
            ARGUMENT);
        within("13 the sixth", States.plus(States.SIX_TONES, "removeTone"), "addTone #", 1000, 1999, ARGUMENT);
        within("13 just one is left", States.plus(States.SIX_TONES, "removeTone", "removeTone", "addTone 1001"),
            "addTone #", 1000, 1000, ARGUMENT);
        within("19 wavelength", States.NEW, "setDopplerWavelength #", 1, 10000, ARGUMENT);
        within("19 wavelength", States.BUSY, "setDopplerWavelength #", 1, 10000, ARGUMENT);
    }

    private static void settings() {
        for (String[] state : new String[][] {States.NEW, States.BUSY, States.RUNNING}) {
            within("17 amplitude", state, "setNoise #", 0, 30000, ARGUMENT);
            within("18 seed", state, "setSeed #", Integer.MIN_VALUE, Integer.MAX_VALUE, ARGUMENT);
            within("34 range", state, "setAPriori #", 0, 10000000000000L, ARGUMENT);
            within("42 threshold", state, "setSlipThreshold #", 0, 1000000000L, ARGUMENT);
            within("46 window", state, "setWindow #", 1, 50, ARGUMENT);
        }
    }

    private static void slips() {
        within("26 cycles", States.RUNNING, "addSlip #", -1000, 1000, ARGUMENT);
        within("26 cycles", States.RUNNING_EMPTY, "addSlip #", -1000, 1000, ARGUMENT);
    }

    private static void whatWasSetStands() {
        Rows.play("2 least", "setTruth 0 -10000000", "trueRange = 0", "trueRate = -10000000");
        Rows.play("2 greatest", "setTruth 10000000000000 10000000", "trueRange = 10000000000000",
            "trueRate = 10000000");
        Rows.play("3 least", "addSegment 1 -10000 = 1", "run 2 = 2", "trueRate = -10000", "trueRange = -15000");
        Rows.play("3 greatest", "addSegment 1000 10000 = 1", "run 999", "trueRate = 9990000", "clearScript = 1",
            "addSegment 1000 10000 = 1", "setTruth 0 0", "run 1000", "trueRate = 10000000", "clearScript = 0");
        Rows.play("5 greatest and least", "run 1000 = 1000", "run 1 = 1001");
        Rows.play("9 greatest and least", "setTruth 7 1", "trueRangeIn 1000 = 1007", "trueRangeIn 0 = 7");
        Rows.play("10 greatest and least", "setTruth 7 -1", "closestApproach 1000 = 1000", "closestApproach 0 = 0");
        Rows.play("11", "setDelay 9 1000000000 = 0", "setDelay 9 0 = 1000000000", "setDelay 9 1 = 0",
            "setDelay 0 1000000000 = 0", "setDelay 0 0 = 1000000000", "setDelay 9 0 = 1");
        Rows.play("12", "setStation 9 = 0", "setStation 0 = 9", "setStation 0 = 0");
        Rows.play("13", "addTone 1000000000000 = 1", "addTone 1000 = 2", "wavelength 0 = 1000000000000",
            "wavelength 1 = 1000");
        Rows.play("17", "setNoise 30000 = 0", "setNoise 0 = 30000", "setNoise 1 = 0");
        Rows.play("18", "setSeed -2147483648 = 0", "setSeed 2147483647 = -2147483648", "setSeed 0 = 2147483647");
        Rows.play("19", "setDopplerWavelength 10000 = 100", "setDopplerWavelength 1 = 10000",
            "setDopplerWavelength 2 = 1");
        Rows.play("34", "setAPriori 10000000000000 = 0", "setAPriori 0 = 10000000000000", "setAPriori 1 = 0");
        Rows.play("42", "setSlipThreshold 1000000000 = 1000", "setSlipThreshold 0 = 1000000000",
            "setSlipThreshold 1 = 0");
        Rows.play("46", "setWindow 50 = 10", "setWindow 1 = 50", "setWindow 2 = 1");
    }

    private static void delayEstimate() {
        Rows.play("21 all calibrated", "addTone 1000", "calibrate 1", "setStation 9", "calibrate 1",
            "delayEstimate 0 = 0", "delayEstimate 9 = 0", "delayEstimate 8 ! " + NONE, "delayEstimate 10 ! " + ARGUMENT,
            "delayEstimate -1 ! " + ARGUMENT, "delayEstimate -2147483648 ! " + ARGUMENT,
            "delayEstimate 2147483647 ! " + ARGUMENT);
        Rows.play("21 none calibrated", "delayEstimate 0 ! " + NONE, "delayEstimate 9 ! " + NONE,
            "delayEstimate 10 ! " + ARGUMENT, "delayEstimate -1 ! " + ARGUMENT);
    }

    private static void tonesByIndex() {
        within("16 three", States.BUSY, "wavelength #", 0, 2, INDEX);
        within("16 three, in a pass", States.RUNNING, "wavelength #", 0, 2, INDEX);
        within("16 six", States.SIX_TONES, "wavelength #", 0, 5, INDEX);
        within("16 one", new String[] {"addTone 1000"}, "wavelength #", 0, 0, INDEX);
    }

    private static void stationsByIndex() {
        within("22 two", States.BUSY, "calibratedStation #", 0, 1, INDEX);
        List<String> all = new ArrayList<>(List.of("addTone 1000"));
        for (int i = 9; i >= 0; i--) {
            all.add("setStation " + i);
            all.add("calibrate 1");
        }
        within("22 all ten", all.toArray(new String[0]), "calibratedStation #", 0, 9, INDEX);
    }

    private static void passesByIndex() {
        for (String method : new String[] {"observations", "slips", "ambiguity"}) {
            within("two passes", States.BUSY, method + " #", 0, 1, INDEX);
            within("a third one running", States.RUNNING, method + " #", 0, 2, INDEX);
            within("a third one without observations", States.RUNNING_EMPTY, method + " #", 0, 2, INDEX);
            within("twenty passes", States.TWENTY_PASSES, method + " #", 0, 19, INDEX);
        }
        for (String method : new String[] {"meanInnovation", "varianceInnovation", "lineRate", "lineOffset"}) {
            within("two passes", States.BUSY, method + " #", 0, 1, INDEX);
            within("a third one running", States.RUNNING, method + " #", 0, 2, INDEX);
            within("twenty passes", States.TWENTY_PASSES, method + " #", 0, 19, INDEX);
        }
        within("39 pass", States.RUNNING, "weakIn # 2", 0, 2, INDEX);
        within("39 one of twenty passes", States.TWENTY_PASSES, "weakIn # 0", 0, 19, INDEX);
        within("39 tone", States.RUNNING, "weakIn 2 #", 0, 2, INDEX);
        within("39 tone without observations", States.RUNNING_EMPTY, "weakIn 2 #", 0, 2, INDEX);
        within("51 pass", States.BUSY, "join #", 1, 1, INDEX);
        within("51 pass, while one is running", States.RUNNING, "join #", 1, 2, INDEX);
        within("51 one of twenty passes", States.TWENTY_PASSES, "join #", 1, 19, INDEX);
    }

    private static void observationsByIndex() {
        for (String method : new String[] {"observationTime", "observationPass", "dopplerCount", "range", "smoothed",
            "residual"}) {
            within("five observations", States.BUSY, method + " #", 0, 4, INDEX);
            within("seven, the pass is running", States.RUNNING, method + " #", 0, 6, INDEX);
            within("five, a pass without one is running", States.RUNNING_EMPTY, method + " #", 0, 4, INDEX);
            within("a hundred", States.HUNDRED_OBSERVATIONS, method + " #", 0, 99, INDEX);
        }
        for (String method : new String[] {"predicted", "innovation"}) {
            within("five observations", States.BUSY, method + " #", 1, 4, INDEX, 0);
            within("seven, the pass is running", States.RUNNING, method + " #", 1, 6, INDEX, 0);
            within("a hundred", States.HUNDRED_OBSERVATIONS, method + " #", 1, 99, INDEX, 0);
        }
    }

    private static void tonesOfObservations() {
        for (String method : new String[] {"phase", "rangeAfter", "correction", "isWeak"}) {
            within("observation", States.BUSY, method + " # 2", 0, 4, INDEX);
            within("observation", States.RUNNING, method + " # 0", 0, 6, INDEX);
            within("observation", States.HUNDRED_OBSERVATIONS, method + " # 0", 0, 99, INDEX);
            within("tone", States.BUSY, method + " 0 #", 0, 2, INDEX);
            within("tone", States.RUNNING, method + " 6 #", 0, 2, INDEX);
            within("the only tone", States.HUNDRED_OBSERVATIONS, method + " 99 #", 0, 0, INDEX);
            within("one of six tones", States.plus(States.SIX_TONES, "beginPass", "observe"), method + " 0 #", 0, 5,
                INDEX);
            within("the tones of its pass", States.plus(States.BUSY, "removeTone", "beginPass", "observe"),
                method + " 5 #", 0, 1, INDEX);
            within("a tone that was removed since", States.plus(States.BUSY, "removeTone"), method + " 4 #", 0, 2, INDEX);
        }
    }

    private static void nothingByIndex() {
        for (String call : new String[] {"wavelength #", "calibratedStation #", "observations #", "observationTime #",
            "observationPass #", "phase # 0", "dopplerCount #", "rangeAfter # 0", "range #", "correction # 0",
            "isWeak # 0", "weakIn # 0", "predicted #", "innovation #", "slips #", "meanInnovation #",
            "varianceInnovation #", "smoothed #", "lineRate #", "lineOffset #", "residual #", "join #", "ambiguity #"}) {
            within("nothing there", States.NEW, call, 0, -1, INDEX);
        }
        Rows.play("no observations", States.plus(States.NEW, "addTone 1000", "beginPass", "lineRate 0 ! " + FEW,
            "range 0 ! " + INDEX, "observationTime 0 ! " + INDEX, "phase 0 0 ! " + INDEX, "residual 0 ! " + INDEX));
    }

    /** That the values from least to greatest are taken and all others refused; none is taken if greatest is less. */
    private static void within(String what, String[] state, String call, long least, long greatest, String exception) {
        within(what, state, call, least, greatest, exception, least);
    }

    /** Besides, that the values from notRefusedFrom on are not refused with this exception. */
    private static void within(String what, String[] state, String call, long least, long greatest, String exception,
            long notRefusedFrom) {
        boolean isInt = typeOf(call) == int.class;
        for (long value : around(notRefusedFrom, greatest, isInt)) {
            if (value < notRefusedFrom || value > greatest) {
                Rows.play(what, States.plus(state, at(call, value) + " ! " + exception));
            }
        }
        if (least <= greatest) {
            Rows.play(what + ", least", States.plus(state, at(call, least)));
            Rows.play(what + ", greatest", States.plus(state, at(call, greatest)));
        }
    }

    private static List<Long> around(long least, long greatest, boolean isInt) {
        long lowest = isInt ? Integer.MIN_VALUE : Long.MIN_VALUE;
        long highest = isInt ? Integer.MAX_VALUE : Long.MAX_VALUE;
        List<Long> values = new ArrayList<>(List.of(lowest, highest));
        if (least > lowest) {
            values.add(least - 1);
        }
        if (greatest < highest) {
            values.add(greatest + 1);
        }
        if (!isInt) {
            // Their lower halves alone would do.
            values.add(least + (1L << 62));
            values.add(least + Long.MIN_VALUE);
        }
        return values;
    }

    private static Class<?> typeOf(String call) {
        List<String> parts = List.of(call.split(" "));
        return Calls.named(RangingStation.class, parts.get(0)).getParameterTypes()[parts.indexOf("#") - 1];
    }

    private static String at(String call, long value) {
        return call.replace("#", Long.toString(value));
    }
}
