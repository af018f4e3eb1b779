/** Joining: which passes can be joined, when they are, what is taken of them, and chains of them. */
final class JoinEdgesTest {
    private static final String STATE = "IllegalStateException";
    private static final String INDEX = "IndexOutOfBoundsException";

    /** Pass 0 has the ranges -300000 and -250000, one second apart, and it is 20 seconds later. */
    private static final String[] ONE_PASS = {"addTone 1000000", "setTruth 700000 50000", "beginPass", "observe", "run 1",
        "observe", "endPass", "run 20"};
    private static final String[] TWO_PASSES = States.plus(ONE_PASS, "beginPass", "observe", "run 1", "observe", "endPass");

    public static void main(String[] args) {
        passAtLeastOne();
        noSuchPass();
        noObservations();
        noObservationsBefore();
        oneObservationBefore();
        oneTimeBefore();
        twoTimesBefore();
        bothExceptions();
        refusedAfterJoined();
        atTheSameTime();
        joinedWithAmbiguityZero();
        whileItRuns();
        firstAndLast();
        againAndLaterChanges();
        ambiguityOfTheOneBefore();
        wavelengthsOfEach();
        longestChain();
        chainWithAGap();
        chainOfTwenty();
        Check.finish("JoinEdgesTest");
    }

    // p at least 1
    private static void passAtLeastOne() {
        Rows.play("pass 0", "join 0 ! " + INDEX, "addTone 1000", "beginPass", "join 0 ! " + INDEX, "observe", "run 1",
            "observe", "join 0 ! " + INDEX, "endPass", "join 0 ! " + INDEX, "ambiguity 0 = 0", "longestChain = 1");
        Rows.play("passes 0 and 1", States.plus(TWO_PASSES, "join 0 ! " + INDEX, "join 1 = 1", "join 0 ! " + INDEX,
            "ambiguity 0 = 0", "ambiguity 1 = 1"));
    }

    private static void noSuchPass() {
        Rows.play("no such pass", States.plus(TWO_PASSES, "join 2 ! " + INDEX, "join -1 ! " + INDEX, "join 20 ! " + INDEX,
            "join 21 ! " + INDEX, "join 2147483647 ! " + INDEX, "join -2147483648 ! " + INDEX, "ambiguity 2 ! " + INDEX,
            "ambiguity -1 ! " + INDEX));
        Rows.play("the twentieth and the next", States.plus(States.TWENTY_PASSES, "join 19", "join 20 ! " + INDEX,
            "ambiguity 19", "ambiguity 20 ! " + INDEX));
    }

    // If the pass has no observations
    private static void noObservations() {
        Rows.play("no observations", States.plus(ONE_PASS, "beginPass", "join 1 ! " + STATE, "run 1", "join 1 ! " + STATE,
            "longestChain = 1", "endPass = 0", "join 1 ! " + STATE, "longestChain = 1"));
        Rows.play("one is enough", States.plus(ONE_PASS, "beginPass", "join 1 ! " + STATE, "observe", "join 1 = 1",
            "longestChain = 2"));
    }

    // If the observations of the pass before it have fewer than 2 different times

    private static void noObservationsBefore() {
        Rows.play("none before", "addTone 1000000", "beginPass", "endPass", "beginPass", "join 1 ! " + STATE, "observe",
            "join 1 ! " + STATE, "run 1", "observe", "join 1 ! " + STATE, "ambiguity 1 = 0", "longestChain = 1");
        Rows.play("two times in the pass before that", States.plus(ONE_PASS, "beginPass", "endPass", "beginPass", "observe",
            "join 2 ! " + STATE, "join 1 ! " + STATE, "longestChain = 1"));
    }

    private static void oneObservationBefore() {
        Rows.play("one before", "addTone 1000000", "beginPass", "observe", "endPass", "run 1", "beginPass", "observe",
            "run 1", "observe", "join 1 ! " + STATE, "ambiguity 1 = 0", "longestChain = 1");
    }

    private static void oneTimeBefore() {
        Rows.play("three at one time before", "addTone 1000000", "beginPass", "observe", "observe", "observe", "endPass",
            "run 1", "beginPass", "observe", "run 1", "observe", "join 1 ! " + STATE, "longestChain = 1");
    }

    private static void twoTimesBefore() {
        Rows.play("the last at another time", "addTone 1000000", "beginPass", "3*(observe)", "run 1", "observe", "endPass",
            "beginPass", "observe", "join 1 = 0", "longestChain = 2");
        Rows.play("the first at another time", "addTone 1000000", "beginPass", "observe", "run 1", "3*(observe)", "endPass",
            "beginPass", "observe", "join 1 = 0", "longestChain = 2");
    }

    private static void bothExceptions() {
        Rows.play("no such pass and no observations", "addTone 1000000", "beginPass", "join 0 ! " + INDEX,
            "join 1 ! " + INDEX, "endPass", "beginPass", "join 0 ! " + INDEX, "join 1 ! " + STATE, "join 2 ! " + INDEX);
    }

    private static void refusedAfterJoined() {
        Rows.play("the joined ones stay", States.plus(TWO_PASSES, "join 1 = 1", "setAPriori 1200000", "beginPass",
            "join 2 ! " + STATE, "join 0 ! " + INDEX, "join 3 ! " + INDEX, "ambiguity 1 = 1", "ambiguity 2 = 0",
            "longestChain = 2"));
    }

    // The expected range: the smoothed range of b plus the Doppler rate * 0
    private static void atTheSameTime() {
        Rows.play("at the time of the last one", "addTone 1000000", "setTruth 700000 50000", "beginPass", "observe", "run 1",
            "observe", "endPass", "setAPriori 300000", "range 1 = 750000", "beginPass", "observe", "setAPriori 0",
            "range 2 = -250000", "join 1 = 0", "ambiguity 1 = 0", "longestChain = 2");
    }

    private static void joinedWithAmbiguityZero() {
        Rows.play("joined all the same", States.plus(TWO_PASSES, "setAPriori 700000", "range 2 = 750000", "longestChain = 1",
            "join 1", "longestChain = 2"));
        Rows.play("standing still", "addTone 1000", "beginPass", "observe", "run 1", "observe", "endPass", "beginPass",
            "observe", "longestChain = 1", "join 1 = 0", "longestChain = 2", "ambiguity 1 = 0", "range 2 = 0");
    }

    // The ambiguity of a pass is 0 until it is joined.
    private static void whileItRuns() {
        Rows.play("while it runs", States.plus(ONE_PASS, "beginPass", "ambiguity 1 = 0", "observe", "ambiguity 1 = 0",
            "range 2 = -250000", "join 1 = 1", "ambiguity 1 = 1", "range 2 = 750000", "run 1", "observe",
            "range 3 = 800000", "predicted 3 = 800000", "innovation 3 = 0", "join 1 = 1", "endPass = 2",
            "range 3 = 800000"));
    }

    // a is the first and b the last observation of pass p - 1, and c the first observation of pass p.
    private static void firstAndLast() {
        // The counts are 0, 10, 0 and 3 at the times 0, 1, 2 and 3, the rate is floor(3 * 1 / 3) = 1.
        Rows.play("first and last", "addTone 1000", "setDopplerWavelength 1", "setWindow 1", "beginPass", "observe",
            "addSlip 10", "run 1", "observe", "addSlip -10", "run 1", "observe", "addSlip 3", "run 1", "observe", "endPass",
            "run 1000", "beginPass", "observe", "run 1000", "observe", "run 1000", "observe", "join 1 = 1", "endPass",
            "beginPass", "observe", "join 2 = 1");
        // Slips before the first observation of the pass before do not count, nor those after its last one.
        Rows.play("slips outside", "addTone 1000", "setDopplerWavelength 1", "setWindow 1", "beginPass", "addSlip 900",
            "observe", "run 1", "addSlip 2", "observe", "addSlip 900", "endPass", "run 1000", "beginPass", "addSlip 900",
            "observe", "join 1 = 2");
    }

    // A pass may be joined again. Later changes do not change an ambiguity.
    private static void againAndLaterChanges() {
        String[] joined = States.plus(TWO_PASSES, "join 1 = 1");
        Rows.play("joined again", States.plus(joined, "join 1 = 1", "join 1 = 1", "ambiguity 1 = 1", "range 2 = 750000",
            "longestChain = 2"));
        Rows.play("another a priori range", States.plus(joined, "setAPriori 1200000", "ambiguity 1 = 1", "join 1 = 2",
            "ambiguity 1 = 2", "setAPriori 0", "ambiguity 1 = 2", "range 2 = 1750000", "join 1 = 1", "ambiguity 1 = 1"));
        Rows.play("another window", States.plus(joined, "setAPriori 1200000", "setWindow 1", "ambiguity 1 = 1", "join 1 = 1"));
        // The ranges 470000 and -480000, smoothed 20000: 1020000 is expected, and -480000 is without ambiguity.
        Rows.play("another estimate", States.plus(joined, "setDelay 0 230000", "calibrate 1", "ambiguity 1 = 1",
            "range 2 = 520000", "join 1 = 2", "ambiguity 1 = 2", "range 2 = 1520000", "longestChain = 2"));
    }

    private static void ambiguityOfTheOneBefore() {
        // Pass 2 is 19 seconds after pass 1, 950000 farther: 800000 + 950000 is expected.
        String[] three = States.plus(TWO_PASSES, "run 19", "beginPass", "observe", "run 1", "observe", "endPass");
        Rows.play("to a joined pass", States.plus(three, "range 4 = -250000", "join 1 = 1", "join 2 = 2", "range 4 = 1750000",
            "longestChain = 3", "ambiguity 1 = 1", "ambiguity 2 = 2"));
        Rows.play("to one that is joined later", States.plus(three, "join 2 = 1", "range 4 = 750000", "longestChain = 2",
            "join 1 = 1", "ambiguity 2 = 1", "range 4 = 750000", "longestChain = 3", "join 2 = 2", "range 4 = 1750000"));
    }

    // W of pass p - 1, L(0) of pass p
    private static void wavelengthsOfEach() {
        Rows.play("each its own", "addTone 10000", "setDopplerWavelength 2", "setWindow 1", "beginPass", "observe",
            "addSlip 3", "run 1", "observe", "endPass", "run 1000", "removeTone", "addTone 1000", "setDopplerWavelength 5",
            "beginPass", "observe", "join 1 = 6", "range 2 = 6000", "endPass", "removeTone", "addTone 100000", "beginPass",
            "run 1", "observe", "join 2 ! " + STATE, "range 3 = 0");
    }

    // The number of passes; 0 without passes
    private static void longestChain() {
        Rows.play("chains", "longestChain = 0", "addTone 1000", "longestChain = 0", "beginPass", "longestChain = 1", "observe",
            "run 1", "observe", "endPass", "longestChain = 1", "beginPass", "longestChain = 1", "observe", "run 1",
            "observe", "longestChain = 1", "join 1", "longestChain = 2", "endPass", "beginPass", "longestChain = 2",
            "observe", "longestChain = 2", "join 2", "longestChain = 3", "join 2", "longestChain = 3");
    }

    // Each of which, except the first one, is joined
    private static void chainWithAGap() {
        String[] seven = {"addTone 1000", "7*(beginPass; observe; run 1; observe; endPass)"};
        Rows.play("two chains", States.plus(seven, "longestChain = 1", "join 1", "longestChain = 2", "join 3",
            "longestChain = 2", "join 5", "longestChain = 2", "join 6", "longestChain = 3", "join 2", "longestChain = 4",
            "join 4", "longestChain = 7"));
        Rows.play("the longest at the beginning", States.plus(seven, "join 1", "join 2", "join 4", "longestChain = 3"));
        Rows.play("the longest at the end", States.plus(seven, "join 1", "join 5", "join 6", "longestChain = 3"));
    }

    private static void chainOfTwenty() {
        Rows.play("all but one", States.plus(States.TWENTY_PASSES, "join 1", "join 2", "join 3", "join 4", "join 5", "join 6",
            "join 7", "join 8", "join 9", "join 11", "join 12", "join 13", "join 14", "join 15", "join 16", "join 17",
            "join 18", "join 19", "longestChain = 10", "join 10", "longestChain = 20", "join 0 ! " + INDEX,
            "longestChain = 20"));
    }
}
