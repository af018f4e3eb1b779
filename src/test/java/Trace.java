import java.util.ArrayList;
import java.util.List;

/**
 * What an object tells of its state, in some 200 calls at most. The object is used up by it: the last calls change
 * what they ask for, as of the settings only the previous value is told.
 */
final class Trace {
    private static final int[] LATER = {1, 2, 3, 5, 10, 30, 100, 210, 300, 1000};
    private static final int LAST_OBSERVATIONS = 5;

    private final Object asked;
    private final List<String> told = new ArrayList<>();

    private Trace(Object asked) {
        this.asked = asked;
    }

    static List<String> of(Object asked) {
        Trace trace = new Trace(asked);
        trace.motion();
        trace.tonesAndStations();
        trace.passesAndObservations();
        trace.runningPass();
        trace.settings();
        trace.nextPass();
        return trace.told;
    }

    private String ask(String call) {
        String answer = Calls.told(asked, call);
        told.add(call + " = " + answer);
        return answer;
    }

    /** Asks for the indices from 0 until there is none, at most for so many. */
    private void askRow(String call, int most) {
        for (int i = 0; i < most; i++) {
            if (ask(call + " " + i).startsWith("throws")) {
                return;
            }
        }
    }

    private void motion() {
        ask("time");
        ask("trueRange");
        ask("trueRate");
        for (int seconds : LATER) {
            ask("trueRangeIn " + seconds);
        }
        ask("closestApproach 1000");
    }

    private void tonesAndStations() {
        ask("toneCount");
        askRow("wavelength", 7);
        askRow("calibratedStation", 11);
        for (int station = 0; station < 10; station++) {
            ask("delayEstimate " + station);
        }
    }

    private void passesAndObservations() {
        int passes = Integer.parseInt(ask("passCount"));
        int made = 0;
        for (int pass = 0; pass < passes; pass++) {
            made += Integer.parseInt(ask("observations " + pass));
            ask("ambiguity " + pass);
        }
        ask("longestChain");
        ask("distinctTimes");
        for (int observation = Math.max(0, made - LAST_OBSERVATIONS); observation <= made; observation++) {
            askObservation(observation);
        }
        ask("slips " + (passes - 1));
    }

    private void askObservation(int observation) {
        ask("observationTime " + observation);
        ask("observationPass " + observation);
        ask("dopplerCount " + observation);
        ask("smoothed " + observation);
        askRow("phase " + observation, 7);
    }

    private void runningPass() {
        ask("addSlip 0");
        String made = ask("observe");
        if (!made.startsWith("throws")) {
            askObservation(Integer.parseInt(made));
        }
        ask("endPass");
    }

    private void settings() {
        String[] settings = {"setNoise", "setSeed", "setDopplerWavelength", "setAPriori", "setSlipThreshold",
            "setWindow", "setStation"};
        for (String setting : settings) {
            ask(setting + " 1");
        }
        for (int station = 0; station < 10; station++) {
            ask("setDelay " + station + " 0");
        }
        ask("clearScript");
    }

    private void nextPass() {
        ask("beginPass");
        ask("endPass");
    }
}
