/** MOTION: the script when it is empty, full or used up within a call, the limit of the rate, and the time. */
final class MotionEdgesTest {
    private static final String ARGUMENT = "IllegalArgumentException";
    private static final String STATE = "IllegalStateException";

    public static void main(String[] args) {
        atFirst();
        emptyScript();
        fullScript();
        fullScriptInAPass();
        aSegmentInUseCounts();
        aSegmentUsedUpIsRemoved();
        segmentUsedUpByTheEndOfACall();
        scriptUsedUpWithinACall();
        twentySegmentsWithinACall();
        longestSegments();
        oneCallOrMany();
        clearedWithinASegment();
        segmentWithoutAcceleration();
        rateAtItsLimits();
        rateStaysAtItsLimit();
        limitSeenAhead();
        rangeBeyondWhatCanBeSet();
        nothingChangesByLookingAhead();
        closestApproachAtTheLimit();
        closestApproachOfSeveral();
        closestApproachBehindTheScript();
        setTruthAlone();
        Check.finish("MotionEdgesTest");
    }

    // Both are 0 at first. The time is 0 at first.
    private static void atFirst() {
        Rows.play("at first", "trueRange = 0", "trueRate = 0", "time = 0", "clearScript = 0", "run 1000 = 1000",
            "trueRange = 0", "trueRate = 0");
    }

    // 0 without segments
    private static void emptyScript() {
        Rows.play("no segments", "setTruth 5 7", "run 1 = 1", "trueRange = 12", "trueRate = 7", "run 1000 = 1001",
            "trueRange = 7012", "trueRate = 7", "trueRangeIn 2 = 7026", "clearScript = 0", "addSegment 1 1 = 1");
    }

    // The script is a list of at most 20 segments.
    private static void fullScript() {
        Rows.play("20 segments", "19*(addSegment 1 1)", "addSegment 1000 10000 = 20", "addSegment 1 1 ! " + STATE,
            "addSegment 1000 10000 ! " + STATE, "addSegment 1 0 ! " + STATE, "clearScript = 20", "clearScript = 0",
            "addSegment 1 1 = 1");
    }

    private static void fullScriptInAPass() {
        Rows.play("20 segments in a pass", "addTone 1000", "beginPass", "20*(addSegment 1 1)", "addSegment 1 1 ! " + STATE,
            "run 1", "addSegment 1 1 = 20", "addSegment 1 1 ! " + STATE, "clearScript = 20");
    }

    private static void aSegmentInUseCounts() {
        Rows.play("19 and one in use", "20*(addSegment 2 1)", "run 1", "addSegment 1 1 ! " + STATE, "run 1",
            "addSegment 1 1 = 20", "addSegment 1 1 ! " + STATE, "run 4", "addSegment 1 1 = 19", "addSegment 1 1 = 20",
            "addSegment 1 1 ! " + STATE);
    }

    // A segment that is used up is removed.
    private static void aSegmentUsedUpIsRemoved() {
        Rows.play("a segment of 1 second", "addSegment 1 5 = 1", "run 1", "trueRate = 5", "clearScript = 0");
        Rows.play("a segment of 2 seconds", "addSegment 2 5 = 1", "run 1", "trueRate = 5", "addSegment 1 9 = 2", "run 1",
            "trueRate = 10", "addSegment 1 0 = 2", "run 1", "trueRate = 19", "clearScript = 1");
    }

    private static void segmentUsedUpByTheEndOfACall() {
        Rows.play("one second too few", "addSegment 1000 1", "run 999", "clearScript = 1");
        Rows.play("just the seconds", "addSegment 1000 1", "run 1000", "clearScript = 0");
        Rows.play("two segments, one second too few", "addSegment 3 1", "addSegment 4 -2", "run 6", "clearScript = 1",
            "trueRate = -3");
        Rows.play("two segments, just the seconds", "addSegment 3 1", "addSegment 4 -2", "run 7", "clearScript = 0",
            "trueRate = -5");
    }

    private static void scriptUsedUpWithinACall() {
        // The rates 4, 8, 5, 5, 5; the ranges 2, 8, 14, 19, 24
        Rows.play("used up in the middle", "addSegment 2 4", "addSegment 1 -3", "run 5 = 5", "trueRate = 5",
            "trueRange = 24", "clearScript = 0");
        Rows.play("one second behind its end", "addSegment 2 4", "addSegment 1 -3", "trueRangeIn 3 = 14",
            "trueRangeIn 4 = 19", "run 4", "trueRate = 5", "trueRange = 19", "addSegment 1 0 = 1");
    }

    private static void twentySegmentsWithinACall() {
        Rows.play("all 20 in one call", "20*(addSegment 50 7)", "trueRangeIn 1000 = " + (7 * 999 * 500 + 3 * 1000),
            "run 1000", "trueRate = 7000", "trueRange = " + (7 * 999 * 500 + 3 * 1000), "clearScript = 0");
        Rows.play("the 20th is left", "20*(addSegment 50 7)", "run 999", "trueRate = 6993", "clearScript = 1");
        Rows.play("the 20th alone", "19*(addSegment 1 0)", "addSegment 1 -9", "run 19", "trueRate = 0", "run 1",
            "trueRate = -9", "trueRange = -5", "clearScript = 0");
    }

    private static void longestSegments() {
        Rows.play("20 times 1000 seconds", "20*(addSegment 1000 1)", "run 1000", "addSegment 1000 1 = 20", "run 1000",
            "trueRate = 2000", "clearScript = 19");
    }

    private static void oneCallOrMany() {
        String[] script = {"setTruth 1000 -20", "addSegment 3 11", "addSegment 1 -7", "addSegment 5 3"};
        // The rates -9, 2, 13, 6, 9, 12, 15, 18, 21, 21; the ranges 985, 981, 988, 997, 1004, 1014, 1027, 1043, 1062, 1083
        String then = "trueRange = 1083";
        Rows.play("ten seconds at once", States.plus(script, "trueRangeIn 10 = 1083", "run 10 = 10", then, "trueRate = 21"));
        Rows.play("one by one", States.plus(script, "10*(run 1)", "time = 10", then, "trueRate = 21"));
        Rows.play("in pieces", States.plus(script, "run 3 = 3", "run 1 = 4", "run 6 = 10", then, "trueRate = 21"));
    }

    private static void clearedWithinASegment() {
        Rows.play("cleared in use", "addSegment 5 5", "addSegment 5 5", "run 3", "clearScript = 2", "run 10",
            "trueRate = 15");
        Rows.play("cleared in a pass", "addTone 1000", "addSegment 5 5", "beginPass", "run 1", "clearScript = 1", "run 1",
            "trueRate = 5");
    }

    private static void segmentWithoutAcceleration() {
        Rows.play("a pause", "addSegment 2 0", "addSegment 1 6", "run 2", "trueRate = 0", "clearScript = 1");
        Rows.play("and then", "addSegment 2 0 = 1", "addSegment 1 6 = 2", "run 3", "trueRate = 6", "trueRange = 3");
    }

    // Then the rate increases by a and is limited to the range -10000000 to 10000000.
    private static void rateAtItsLimits() {
        long[][] rates = {{9990000, 10000, 10000000}, {9990001, 10000, 10000000}, {9989999, 10000, 9999999},
            {9999999, 1, 10000000}, {9999999, 2, 10000000}, {10000000, 0, 10000000}, {10000000, 1, 10000000},
            {10000000, 10000, 10000000}, {10000000, -1, 9999999}, {-9990000, -10000, -10000000},
            {-9990001, -10000, -10000000}, {-9989999, -10000, -9999999}, {-9999999, -1, -10000000},
            {-9999999, -2, -10000000}, {-10000000, -1, -10000000}, {-10000000, -10000, -10000000},
            {-10000000, 1, -9999999}};
        for (long[] row : rates) {
            long range = row[0] + Math.floorDiv(row[1], 2);
            Rows.play("rate " + row[0] + " and " + row[1], "setTruth 0 " + row[0], "addSegment 1 " + row[1],
                "trueRangeIn 1 = " + range, "trueRangeIn 2 = " + (range + row[2]), "run 1",
                "trueRate = " + row[2], "trueRange = " + range, "run 1", "trueRange = " + (range + row[2]));
        }
    }

    private static void rateStaysAtItsLimit() {
        Rows.play("pressed against the limit", "setTruth 0 9999990", "addSegment 3 6", "addSegment 1 -6", "run 1",
            "trueRate = 9999996", "run 1", "trueRate = 10000000", "run 1", "trueRate = 10000000", "run 1",
            "trueRate = 9999994", "trueRange = " + (9999993L + 9999999L + 10000003L + 9999997L));
        Rows.play("pressed against the lower limit", "setTruth 0 -9999990", "addSegment 3 -6", "addSegment 1 6", "run 4",
            "trueRate = -9999994", "trueRange = " + -(9999993L + 9999999L + 10000003L + 9999997L));
    }

    private static void limitSeenAhead() {
        // The rate is at its limit all the time: not limited, it would turn later.
        Rows.play("ahead, at the limit", "setTruth 0 -10000000", "addSegment 1000 -10000", "trueRangeIn 2 = -20010000",
            "trueRangeIn 1000 = " + -1000L * 10005000L, "closestApproach 1000 = 1000");
        Rows.play("ahead, from the limit", "setTruth 0 -10000000", "addSegment 500 -10000", "run 500", "trueRate = -10000000",
            "addSegment 1000 10000", "run 499", "closestApproach 1000 = 501", "closestApproach 501 = 501",
            "closestApproach 500 = 500");
    }

    private static void rangeBeyondWhatCanBeSet() {
        Rows.play("beyond the greatest", "setTruth 10000000000000 10000000", "run 1000", "trueRange = 10010000000000",
            "trueRangeIn 1000 = 10020000000000");
        Rows.play("below 0", "setTruth 0 -10000000", "run 1", "trueRange = -10000000", "run 1000",
            "trueRange = -10010000000");
    }

    // Nothing changes.
    private static void nothingChangesByLookingAhead() {
        for (String call : new String[] {"trueRangeIn 0", "trueRangeIn 1", "trueRangeIn 1000", "closestApproach 0",
            "closestApproach 1", "closestApproach 1000"}) {
            Rows.play(call + " changes nothing", "setTruth 100 -7", "addSegment 2 3", "addSegment 2 -1", "run 1", call,
                call, "time = 1", "trueRange = 94", "trueRate = -4", "trueRangeIn 1 = 91", call, "run 1",
                "trueRange = 91", "trueRate = -1", "addSegment 1 1 = 2", call, "run 3", "trueRate = -2", "clearScript = 0");
        }
    }

    // From 0 to a limit
    private static void closestApproachAtTheLimit() {
        // 100, 90, 85, 85, 90: the least are at 2 and 3 seconds.
        String[] script = {"setTruth 100 -12", "addSegment 4 5"};
        Rows.play("the limit before, at and behind the least", States.plus(script, "trueRangeIn 1 = 90",
            "trueRangeIn 2 = 85", "trueRangeIn 3 = 85", "trueRangeIn 4 = 90", "closestApproach 0 = 0",
            "closestApproach 1 = 1", "closestApproach 2 = 2", "closestApproach 3 = 2", "closestApproach 4 = 2",
            "closestApproach 1000 = 2", "closestApproach 1001 ! " + ARGUMENT, "closestApproach -1 ! " + ARGUMENT));
        Rows.play("ever farther", "setTruth 100 1", "closestApproach 0 = 0", "closestApproach 1000 = 0");
        Rows.play("ever nearer", "setTruth 100 -1", "closestApproach 999 = 999", "closestApproach 1000 = 1000");
    }

    // The least number among several
    private static void closestApproachOfSeveral() {
        Rows.play("standing still", "closestApproach 1000 = 0");
        // 5, 4, 4, 4: the rate is 0 after a second.
        Rows.play("still after a second", "setTruth 5 -1", "addSegment 1 1", "closestApproach 1000 = 1");
        // 5, 6, 6, 5, 4: back at the first range after 3 seconds
        Rows.play("back again", "setTruth 5 1", "addSegment 1 0", "addSegment 1 -2", "trueRangeIn 2 = 6",
            "trueRangeIn 3 = 5", "closestApproach 3 = 0", "closestApproach 4 = 4", "closestApproach 1000 = 1000");
        Rows.play("down, up and down to the same", "setTruth 10 -4", "addSegment 1 8", "addSegment 1 -8",
            "addSegment 1 4", "trueRangeIn 1 = 10", "trueRangeIn 2 = 10", "trueRangeIn 3 = 8", "trueRangeIn 4 = 8",
            "closestApproach 2 = 0", "closestApproach 3 = 3", "closestApproach 1000 = 3");
    }

    private static void closestApproachBehindTheScript() {
        // The script ends after 2 seconds, with the rate -1; then the range falls to the limit of the call.
        Rows.play("behind the end of the script", "setTruth 100 5", "addSegment 2 -3", "closestApproach 2 = 0",
            "trueRangeIn 2 = 103", "closestApproach 5 = 0", "closestApproach 6 = 6", "trueRangeIn 5 = 100",
            "trueRangeIn 6 = 99", "closestApproach 1000 = 1000");
    }

    private static void setTruthAlone() {
        Rows.play("setTruth leaves the script and the time", "addSegment 3 2", "run 1", "setTruth 7 1", "time = 1",
            "run 1", "trueRange = 9", "trueRate = 3", "run 1", "trueRate = 5", "clearScript = 0");
    }
}
