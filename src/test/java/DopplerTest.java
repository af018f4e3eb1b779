import java.util.NoSuchElementException;

/** Promises 40 to 47. */
final class DopplerTest {
    private static final Class<IllegalArgumentException> ARGUMENT = IllegalArgumentException.class;
    private static final Class<IndexOutOfBoundsException> INDEX = IndexOutOfBoundsException.class;
    private static final Class<NoSuchElementException> NONE = NoSuchElementException.class;

    public static void main(String[] args) {
        predicted();
        innovation();
        acrossPasses();
        setSlipThreshold();
        slips();
        meanInnovation();
        varianceInnovation();
        setWindow();
        smoothed();
        smoothedWithWindows();
        smoothedBelowZero();
        smoothedLong();
        Check.finish("DopplerTest");
    }

    /** Ranges 10050, 10125, 10200, 10275 and Doppler counts 0, 1, 2, 2 with the wavelength 100, in pass 0. */
    private static RangingStation fourObservations() {
        RangingStation x = Check.withTones(1000000, 1000);
        x.setTruth(10050, 75);
        x.beginPass();
        for (int i = 0; i < 4; i++) {
            x.observe();
            x.run(1);
        }
        return x;
    }

    // Promise 40
    private static void predicted() {
        RangingStation x = fourObservations();
        Check.eq("40 second", x.predicted(1), 10150);
        Check.eq("40 third", x.predicted(2), 10225);
        Check.eq("40 fourth", x.predicted(3), 10200);
        Check.fails("40 first", NONE, () -> x.predicted(0));
        Check.fails("40 observation 4", INDEX, () -> x.predicted(4));
        Check.fails("40 observation -1", INDEX, () -> x.predicted(-1));
        x.setAPriori(2000000);
        Check.eq("40 with the present a priori range", x.predicted(1), 2010150);
        x.endPass();
        x.setDelay(0, 50);
        x.calibrate(1);
        Check.eq("40 with the present estimate", x.predicted(1), 2010100);
        x.setDopplerWavelength(1);
        Check.eq("40 with the Doppler wavelength of its pass", x.predicted(1), 2010100);
    }

    // Promise 41
    private static void innovation() {
        RangingStation x = fourObservations();
        Check.eq("41 second", x.innovation(1), -25);
        Check.eq("41 third", x.innovation(2), -25);
        Check.eq("41 fourth", x.innovation(3), 75);
        Check.fails("41 first", NONE, () -> x.innovation(0));
        Check.fails("41 observation 4", INDEX, () -> x.innovation(4));
        Check.fails("41 observation -1", INDEX, () -> x.innovation(-1));
    }

    private static void acrossPasses() {
        RangingStation x = fourObservations();
        x.endPass();
        x.setDopplerWavelength(10);
        x.beginPass();
        x.observe();
        x.addSlip(-2);
        x.observe();
        Check.fails("40 first of the next pass", NONE, () -> x.predicted(4));
        Check.fails("41 first of the next pass", NONE, () -> x.innovation(4));
        Check.eq("40 second of the next pass", x.predicted(5), 10330);
        Check.eq("41 second of the next pass", x.innovation(5), 20);
        Check.eq("47 first of the next pass", x.smoothed(4), 10350);
        Check.eq("47 second of the next pass", x.smoothed(5), 10340);
        Check.eqD("44 the next pass", x.meanInnovation(1), 20.0);
        Check.eqD("45 the next pass", x.varianceInnovation(1), 0.0);
    }

    // Promise 42
    private static void setSlipThreshold() {
        RangingStation x = new RangingStation();
        Check.eq("42 least", x.setSlipThreshold(0), 1000);
        Check.eq("42 greatest", x.setSlipThreshold(1000000000L), 0);
        Check.fails("42 too great", ARGUMENT, () -> x.setSlipThreshold(1000000001L));
        Check.fails("42 negative", ARGUMENT, () -> x.setSlipThreshold(-1));
        Check.eq("42 unchanged", x.setSlipThreshold(3), 1000000000L);
    }

    // Promise 43
    private static void slips() {
        RangingStation x = fourObservations();
        Check.eq("43 none above 1000", x.slips(0), 0);
        x.setSlipThreshold(24);
        Check.eq("43 all", x.slips(0), 3);
        x.setSlipThreshold(25);
        Check.eq("43 not the equal ones", x.slips(0), 1);
        x.setSlipThreshold(75);
        Check.eq("43 none", x.slips(0), 0);
        x.endPass();
        x.beginPass();
        Check.eq("43 no observations", x.slips(1), 0);
        x.observe();
        Check.eq("43 a first one alone", x.slips(1), 0);
        x.observe();
        x.setSlipThreshold(0);
        Check.eq("43 an innovation of 0", x.slips(1), 0);
        x.addSlip(1);
        x.observe();
        Check.eq("43 a slip of one cycle", x.slips(1), 1);
        Check.fails("43 pass 2", INDEX, () -> x.slips(2));
        Check.fails("43 pass -1", INDEX, () -> x.slips(-1));
    }

    // Promise 44
    private static void meanInnovation() {
        RangingStation x = fourObservations();
        Check.eqD("44 three", x.meanInnovation(0), 25.0 / 3.0);
        x.endPass();
        x.beginPass();
        Check.fails("44 no observations", NONE, () -> x.meanInnovation(1));
        x.observe();
        Check.fails("44 one", NONE, () -> x.meanInnovation(1));
        x.addSlip(3);
        x.observe();
        Check.eqD("44 two", x.meanInnovation(1), -300.0);
        Check.fails("44 pass 2", INDEX, () -> x.meanInnovation(2));
        Check.fails("44 pass -1", INDEX, () -> x.meanInnovation(-1));
    }

    // Promise 45
    private static void varianceInnovation() {
        RangingStation x = fourObservations();
        double mean = 25.0 / 3.0;
        double sum = 0.0 + (-25.0 - mean) * (-25.0 - mean);
        sum += (-25.0 - mean) * (-25.0 - mean);
        sum += (75.0 - mean) * (75.0 - mean);
        Check.eqD("45 three", x.varianceInnovation(0), sum / 3.0);
        x.endPass();
        x.beginPass();
        Check.fails("45 no observations", NONE, () -> x.varianceInnovation(1));
        x.observe();
        Check.fails("45 one", NONE, () -> x.varianceInnovation(1));
        x.addSlip(3);
        x.observe();
        Check.eqD("45 two", x.varianceInnovation(1), 0.0);
        x.addSlip(-1);
        x.observe();
        // -300 and 100, the mean -100
        Check.eqD("45 by the number of innovations", x.varianceInnovation(1), 40000.0);
        Check.fails("45 pass 2", INDEX, () -> x.varianceInnovation(2));
        Check.fails("45 pass -1", INDEX, () -> x.varianceInnovation(-1));
    }

    // Promise 46
    private static void setWindow() {
        RangingStation x = new RangingStation();
        Check.eq("46 least", x.setWindow(1), 10);
        Check.eq("46 greatest", x.setWindow(50), 1);
        Check.fails("46 too great", ARGUMENT, () -> x.setWindow(51));
        Check.fails("46 zero", ARGUMENT, () -> x.setWindow(0));
        Check.fails("46 negative", ARGUMENT, () -> x.setWindow(-1));
        Check.eq("46 unchanged", x.setWindow(10), 50);
    }

    // Promise 47
    private static void smoothed() {
        RangingStation x = fourObservations();
        Check.eq("47 first", x.smoothed(0), 10050);
        // (10125 + 10150) / 2
        Check.eq("47 second", x.smoothed(1), 10137);
        // (10200 + 2 * 10237) / 3
        Check.eq("47 third", x.smoothed(2), 10224);
        // (10275 + 3 * 10224) / 4
        Check.eq("47 fourth", x.smoothed(3), 10236);
        Check.fails("47 observation 4", INDEX, () -> x.smoothed(4));
        Check.fails("47 observation -1", INDEX, () -> x.smoothed(-1));
        x.setAPriori(1000000);
        Check.eq("47 with the present a priori range", x.smoothed(1), 1010137);
    }

    private static void smoothedWithWindows() {
        RangingStation x = fourObservations();
        x.setWindow(2);
        Check.eq("47 window 2, second", x.smoothed(1), 10137);
        Check.eq("47 window 2, third", x.smoothed(2), 10218);
        Check.eq("47 window 2, fourth", x.smoothed(3), 10246);
        x.setWindow(1);
        Check.eq("47 window 1, first", x.smoothed(0), 10050);
        Check.eq("47 window 1, fourth", x.smoothed(3), 10275);
        x.setWindow(50);
        Check.eq("47 window 50", x.smoothed(3), 10236);
    }

    private static void smoothedBelowZero() {
        RangingStation x = Check.withTones(1000000);
        x.setDopplerWavelength(1);
        x.setTruth(0, -1000);
        x.run(1);
        x.beginPass();
        x.observe();
        x.addSlip(1);
        x.run(1);
        x.observe();
        Check.eq("36 below 0", x.range(1), -2000);
        // (-2000 - 1999) / 2
        Check.eq("47 rounds down below 0", x.smoothed(1), -2000);
    }

    private static void smoothedLong() {
        RangingStation x = Check.withTones(1000000000L);
        x.setTruth(0, 0);
        x.beginPass();
        for (int i = 0; i < 100; i++) {
            x.addSlip(i % 2 == 0 ? 7 : -3);
            x.observe();
        }
        long[] windows = {1, 10, 50};
        for (long window : windows) {
            x.setWindow((int) window);
            long smooth = 0;
            for (int i = 1; i < 100; i++) {
                long n = Math.min(i + 1, window);
                long carried = smooth + (i % 2 == 0 ? 700 : -300);
                smooth = Math.floorDiv((n - 1) * carried, n);
                Check.eq("47 window " + window + ", observation " + i, x.smoothed(i), smooth);
            }
        }
    }
}
