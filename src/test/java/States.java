import java.util.ArrayList;
import java.util.List;

/** Rows of calls that bring a new object to a state which many tests begin with. */
final class States {
    static final String[] NEW = {};

    /** Between passes, with something of everything: stations 3 and 0 are calibrated, pass 1 is joined to pass 0. */
    static final String[] BUSY = {
        "setTruth 3000000000 -1500", "addSegment 3 7", "addSegment 20 -9", "run 1",
        "addTone 10000000", "addTone 100000", "addTone 1000",
        "setDelay 0 5555", "setDelay 3 777777", "setNoise 7", "setSeed 12345", "setDopplerWavelength 70",
        "setStation 3", "calibrate 2", "setStation 0", "calibrate 3",
        "setAPriori 123456789", "setSlipThreshold 50", "setWindow 4",
        "beginPass", "observe", "run 2", "addSlip 5", "observe", "endPass",
        "run 3", "beginPass", "observe", "run 1", "observe", "observe", "endPass", "join 1"};

    /** The pass 2 is running, with the observations 5 and 6. */
    static final String[] RUNNING = plus(BUSY, "beginPass", "addSlip -3", "observe", "run 1", "observe");

    /** The pass 2 is running, and has no observations. */
    static final String[] RUNNING_EMPTY = plus(BUSY, "beginPass", "addSlip -3");

    static final String[] SIX_TONES = {"addTone 6000", "addTone 5000", "addTone 4000", "addTone 3000", "addTone 2000",
        "addTone 1001"};

    static final String[] FULL_SCRIPT = {"setTruth 5 5", "20*(addSegment 2 3)", "run 1"};

    static final String[] TWENTY_PASSES = {"addTone 1000000", "setTruth 0 250000",
        "20*(beginPass; observe; run 1; observe; endPass)"};

    static final String[] HUNDRED_OBSERVATIONS = {"addTone 1000000", "setTruth 0 2500", "beginPass",
        "60*(observe; run 1)", "endPass", "beginPass", "39*(observe; run 1)", "setNoise 9", "observe"};

    private States() {
    }

    static String[] plus(String[] state, String... rows) {
        List<String> all = new ArrayList<>(List.of(state));
        all.addAll(List.of(rows));
        return all.toArray(new String[0]);
    }
}
