/** Promises 34 to 39. */
final class RangesTest {
    private static final Class<IllegalArgumentException> ARGUMENT = IllegalArgumentException.class;
    private static final Class<IndexOutOfBoundsException> INDEX = IndexOutOfBoundsException.class;

    public static void main(String[] args) {
        setAPriori();
        nearestToTheAPrioriRange();
        rangeAfter();
        rangeAfterSixTones();
        rangeWithDelayEstimate();
        rangeOfAnotherStation();
        rangeRefused();
        correction();
        isWeak();
        weakIn();
        Check.finish("RangesTest");
    }

    private static void observeAt(RangingStation x, long range) {
        x.setTruth(range, 0);
        x.beginPass();
        x.observe();
        x.endPass();
    }

    // Promise 34
    private static void setAPriori() {
        RangingStation x = Check.withTones(1000);
        Check.eq("34 greatest", x.setAPriori(10000000000000L), 0);
        Check.eq("34 previous", x.setAPriori(0), 10000000000000L);
        Check.fails("34 too great", ARGUMENT, () -> x.setAPriori(10000000000001L));
        Check.fails("34 negative", ARGUMENT, () -> x.setAPriori(-1));
        x.beginPass();
        Check.eq("34 in a pass", x.setAPriori(5), 0);
        Check.fails("34 wrong in a pass", ARGUMENT, () -> x.setAPriori(Long.MAX_VALUE));
        Check.eq("34 unchanged", x.setAPriori(6), 5);
    }

    private static void nearestToTheAPrioriRange() {
        RangingStation x = Check.withTones(1000000);
        observeAt(x, 3200000);
        observeAt(x, 0);
        observeAt(x, 500000);
        Check.eq("36 a priori 0", x.range(0), 200000);
        Check.eq("36 half of a wavelength below", x.range(2), 500000);
        x.setAPriori(499999);
        Check.eq("36 less than half", x.range(1), 0);
        x.setAPriori(500000);
        Check.eq("36 half of a wavelength above", x.range(1), 1000000);
        x.setAPriori(3000000);
        Check.eq("36 the present a priori range", x.range(0), 3200000);
        x.setAPriori(10000000000000L);
        Check.eq("36 the greatest a priori range", x.range(0), 10000000200000L);
        x.setAPriori(1);
        Check.eq("36 half and 1", x.range(2), 500000);
    }

    // Promises 35 and 36
    private static void rangeAfter() {
        RangingStation x = Check.withTones(1000000, 10000, 1000);
        observeAt(x, 1234567);
        Check.eq("35 tone 0", x.rangeAfter(0, 0), 234000);
        Check.eq("35 tone 1", x.rangeAfter(0, 1), 234560);
        Check.eq("35 tone 2", x.rangeAfter(0, 2), 234567);
        Check.eq("36 the last tone", x.range(0), 234567);
        observeAt(x, 999600);
        Check.eq("35 negative after tone 0", x.rangeAfter(1, 0), -1000);
        Check.eq("35 negative after tone 1", x.rangeAfter(1, 1), -400);
        Check.eq("36 negative", x.range(1), -400);
    }

    private static void rangeAfterSixTones() {
        RangingStation x = Check.withTones(1000000000000L, 1000000000L, 100000000L, 1000000L, 10000L, 1000L);
        observeAt(x, 9876443210987L);
        x.setAPriori(10000000000000L);
        Check.eq("35 six tones, 0", x.rangeAfter(0, 0), 9876000000000L);
        Check.eq("35 six tones, 1", x.rangeAfter(0, 1), 9876443000000L);
        Check.eq("35 six tones, 2", x.rangeAfter(0, 2), 9876443200000L);
        Check.eq("35 six tones, 3", x.rangeAfter(0, 3), 9876443210000L);
        Check.eq("35 six tones, 4", x.rangeAfter(0, 4), 9876443210980L);
        Check.eq("35 six tones, 5", x.rangeAfter(0, 5), 9876443210987L);
        Check.eq("36 six tones", x.range(0), 9876443210987L);
        Check.fails("35 tone 6", INDEX, () -> x.rangeAfter(0, 6));
    }

    private static void rangeWithDelayEstimate() {
        RangingStation x = Check.withTones(1000000, 1000);
        x.setDelay(0, 7277);
        observeAt(x, 100000);
        Check.eq("36 not calibrated", x.range(0), 107277);
        x.calibrate(1);
        Check.eq("36 calibrated later", x.range(0), 100000);
        Check.eq("35 after tone 0", x.rangeAfter(0, 0), 99723);
        x.setDelay(0, 500000);
        Check.eq("36 the estimate, not the delay", x.range(0), 100000);
        x.calibrate(1);
        // 107277 - 500000
        Check.eq("36 the present estimate", x.range(0), -392723);
        x.setDelay(0, 700000);
        x.calibrate(1);
        // 107277 - 700000 + 1000000
        Check.eq("36 the multiple follows the estimate", x.range(0), 407277);
    }

    private static void rangeOfAnotherStation() {
        RangingStation x = Check.withTones(1000000);
        x.setDelay(3, 20000);
        x.setStation(3);
        observeAt(x, 100000);
        x.setStation(5);
        x.setDelay(5, 40000);
        x.calibrate(1);
        Check.eq("36 another station's estimate", x.range(0), 120000);
        x.setStation(3);
        x.calibrate(1);
        x.setStation(5);
        Check.eq("36 its station's estimate", x.range(0), 100000);
        x.setAPriori(1000000);
        Check.eq("36 both", x.range(0), 1100000);
    }

    private static void rangeRefused() {
        RangingStation x = Check.withTones(1000000, 1000);
        Check.fails("36 no observations", INDEX, () -> x.range(0));
        observeAt(x, 5);
        Check.fails("36 observation 1", INDEX, () -> x.range(1));
        Check.fails("36 observation -1", INDEX, () -> x.range(-1));
        Check.fails("36 observation 100", INDEX, () -> x.range(100));
        Check.fails("35 observation 1", INDEX, () -> x.rangeAfter(1, 0));
        Check.fails("35 observation -1", INDEX, () -> x.rangeAfter(-1, 0));
        Check.fails("35 tone 2", INDEX, () -> x.rangeAfter(0, 2));
        Check.fails("35 tone -1", INDEX, () -> x.rangeAfter(0, -1));
    }

    // Promise 37
    private static void correction() {
        RangingStation x = Check.withTones(1000000, 10000, 1000);
        observeAt(x, 1234567);
        observeAt(x, 5999600);
        x.setAPriori(77777777);
        Check.eq("37 tone 0", x.correction(0, 0), 0);
        Check.eq("37 tone 1", x.correction(0, 1), 560);
        Check.eq("37 tone 2", x.correction(0, 2), 7);
        Check.eq("37 of the other", x.correction(1, 1), 600);
        Check.eq("37 none needed", x.correction(1, 2), 0);
        Check.fails("37 tone 3", INDEX, () -> x.correction(0, 3));
        Check.fails("37 tone -1", INDEX, () -> x.correction(0, -1));
        Check.fails("37 observation 2", INDEX, () -> x.correction(2, 0));
        Check.fails("37 observation -1", INDEX, () -> x.correction(-1, 0));
    }

    // Promise 38
    private static void isWeak() {
        RangingStation x = Check.withTones(1000000, 1000);
        int[] rests = {0, 250, 251, 499, 500, 501, 749, 750, 999};
        int[] corrections = {0, 250, 251, 499, 500, -499, -251, -250, -1};
        for (int i = 0; i < rests.length; i++) {
            observeAt(x, 77000 + rests[i]);
            Check.eq("37 rest " + rests[i], x.correction(i, 1), corrections[i]);
            Check.note(x.isWeak(i, 1) == (i >= 2 && i <= 6), "38 rest " + rests[i], "" + x.isWeak(i, 1), "the other");
            Check.no("38 tone 0 of " + rests[i], x.isWeak(i, 0));
        }
        Check.fails("38 tone 2", INDEX, () -> x.isWeak(0, 2));
        Check.fails("38 tone -1", INDEX, () -> x.isWeak(0, -1));
        Check.fails("38 observation 9", INDEX, () -> x.isWeak(9, 0));
        Check.fails("38 observation -1", INDEX, () -> x.isWeak(-1, 0));
    }

    // Promise 39
    private static void weakIn() {
        RangingStation x = Check.withTones(1000000, 1000);
        Check.fails("39 no passes", INDEX, () -> x.weakIn(0, 0));
        x.setTruth(77000, 125);
        x.beginPass();
        Check.eq("39 no observations", x.weakIn(0, 1), 0);
        for (int i = 0; i < 9; i++) {
            x.observe();
            x.run(1);
        }
        x.endPass();
        x.removeTone();
        observeAt(x, 77500);
        // 375, 500 and 625 of 0, 125 .. 1000
        Check.eq("39 three", x.weakIn(0, 1), 3);
        Check.eq("39 tone 0", x.weakIn(0, 0), 0);
        Check.eq("39 another pass", x.weakIn(1, 0), 0);
        Check.fails("39 no tone of its pass", INDEX, () -> x.weakIn(1, 1));
        Check.fails("39 tone 2", INDEX, () -> x.weakIn(0, 2));
        Check.fails("39 tone -1", INDEX, () -> x.weakIn(0, -1));
        Check.fails("39 pass 2", INDEX, () -> x.weakIn(2, 0));
        Check.fails("39 pass -1", INDEX, () -> x.weakIn(-1, 0));
    }
}
