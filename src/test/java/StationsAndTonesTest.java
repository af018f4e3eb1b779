import java.util.NoSuchElementException;

/** Promises 11 to 22. */
final class StationsAndTonesTest {
    private static final Class<IllegalArgumentException> ARGUMENT = IllegalArgumentException.class;
    private static final Class<IllegalStateException> STATE = IllegalStateException.class;
    private static final Class<IndexOutOfBoundsException> INDEX = IndexOutOfBoundsException.class;

    public static void main(String[] args) {
        setDelay();
        setStation();
        addTone();
        addToneRefused();
        removeTone();
        wavelength();
        setNoise();
        setSeed();
        setDopplerWavelength();
        calibrate();
        calibrateRefused();
        calibrateWithNoise();
        calibrateRoundsDown();
        calibrateResolves();
        delayEstimate();
        calibratedStation();
        Check.finish("StationsAndTonesTest");
    }

    private static RangingStation inPass() {
        RangingStation x = Check.withTones(100000, 1000);
        x.beginPass();
        return x;
    }

    // Promise 11
    private static void setDelay() {
        RangingStation x = new RangingStation();
        Check.eq("11 greatest", x.setDelay(0, 1000000000L), 0);
        Check.eq("11 previous", x.setDelay(0, 5), 1000000000L);
        Check.eq("11 last station", x.setDelay(9, 77), 0);
        Check.eq("11 least", x.setDelay(9, 0), 77);
        Check.fails("11 station 10", ARGUMENT, () -> x.setDelay(10, 0));
        Check.fails("11 station -1", ARGUMENT, () -> x.setDelay(-1, 0));
        Check.fails("11 delay -1", ARGUMENT, () -> x.setDelay(0, -1));
        Check.fails("11 delay too great", ARGUMENT, () -> x.setDelay(0, 1000000001L));
        Check.eq("11 unchanged", x.setDelay(0, 6), 5);
        RangingStation y = inPass();
        Check.eq("11 in a pass", y.setDelay(0, 12000), 0);
        y.observe();
        Check.eq("11 takes effect in a pass", y.phase(0, 0), 120);
    }

    // Promise 12
    private static void setStation() {
        RangingStation x = Check.withTones(100000);
        x.setDelay(9, 3000);
        Check.eq("12 last", x.setStation(9), 0);
        Check.eq("12 its delay", x.calibrate(1), 3000);
        Check.eq("12 previous", x.setStation(4), 9);
        Check.fails("12 station 10", ARGUMENT, () -> x.setStation(10));
        Check.fails("12 station -1", ARGUMENT, () -> x.setStation(-1));
        Check.eq("12 unchanged", x.setStation(4), 4);
        x.beginPass();
        Check.fails("12 in a pass", STATE, () -> x.setStation(4));
        Check.fails("12 wrong station in a pass", ARGUMENT, () -> x.setStation(10));
        x.endPass();
        Check.eq("12 after a pass", x.setStation(0), 4);
    }

    // Promises 13 and 15
    private static void addTone() {
        RangingStation x = new RangingStation();
        Check.eq("13 greatest", x.addTone(1000000000000L), 1);
        Check.eq("13 one less", x.addTone(999999999999L), 2);
        Check.eq("15 two", x.toneCount(), 2);
        Check.eq("13 least", x.addTone(1000), 3);
        Check.fails("13 not less than the least", ARGUMENT, () -> x.addTone(1000));
        Check.eq("15 three", x.toneCount(), 3);
        RangingStation six = Check.withTones(6000, 5000, 4000, 3000, 2000);
        Check.eq("13 the sixth", six.addTone(1001), 6);
        Check.fails("13 the seventh", STATE, () -> six.addTone(1000));
        Check.fails("13 the seventh, not less", ARGUMENT, () -> six.addTone(1001));
        Check.eq("15 six", six.toneCount(), 6);
    }

    private static void addToneRefused() {
        RangingStation x = new RangingStation();
        Check.fails("13 too great", ARGUMENT, () -> x.addTone(1000000000001L));
        Check.fails("13 too small", ARGUMENT, () -> x.addTone(999));
        Check.fails("13 negative", ARGUMENT, () -> x.addTone(Long.MIN_VALUE));
        x.addTone(5000);
        Check.fails("13 the same", ARGUMENT, () -> x.addTone(5000));
        Check.fails("13 greater", ARGUMENT, () -> x.addTone(5001));
        x.beginPass();
        Check.fails("13 in a pass", STATE, () -> x.addTone(4000));
        Check.fails("13 wrong in a pass", ARGUMENT, () -> x.addTone(5000));
        Check.eq("15 unchanged", x.toneCount(), 1);
        x.endPass();
        Check.eq("13 after a pass", x.addTone(4000), 2);
    }

    // Promise 14
    private static void removeTone() {
        RangingStation x = new RangingStation();
        Check.fails("14 none", STATE, () -> x.removeTone());
        x.addTone(9000);
        x.addTone(8000);
        Check.eq("14 two", x.removeTone(), 1);
        Check.eq("14 the last goes", x.wavelength(0), 9000);
        Check.eq("14 in its place", x.addTone(8500), 2);
        x.beginPass();
        Check.fails("14 in a pass", STATE, () -> x.removeTone());
        Check.eq("15 in a pass", x.toneCount(), 2);
        x.endPass();
        x.removeTone();
        Check.eq("14 the last of all", x.removeTone(), 0);
        Check.fails("14 none again", STATE, () -> x.removeTone());
        Check.eq("13 any after none", x.addTone(1000000), 1);
    }

    // Promise 16
    private static void wavelength() {
        RangingStation x = Check.withTones(6000, 5000, 4000, 3000, 2000, 1000);
        for (int k = 0; k < 6; k++) {
            Check.eq("16 tone", x.wavelength(k), 6000 - 1000 * k);
        }
        Check.fails("16 tone 6", INDEX, () -> x.wavelength(6));
        Check.fails("16 tone -1", INDEX, () -> x.wavelength(-1));
        x.removeTone();
        Check.fails("16 a removed one", INDEX, () -> x.wavelength(5));
        Check.fails("16 no tones", INDEX, () -> new RangingStation().wavelength(0));
    }

    // Promise 17
    private static void setNoise() {
        RangingStation x = new RangingStation();
        Check.eq("17 greatest", x.setNoise(30000), 0);
        Check.eq("17 previous", x.setNoise(0), 30000);
        Check.fails("17 too great", ARGUMENT, () -> x.setNoise(30001));
        Check.fails("17 negative", ARGUMENT, () -> x.setNoise(-1));
        Check.eq("17 unchanged", x.setNoise(3), 0);
        RangingStation y = inPass();
        Check.eq("17 in a pass", y.setNoise(500), 0);
        y.observe();
        // The numbers 0 and 182 of 1001 are drawn: -500 and -318.
        Check.eq("17 noise of tone 0", y.phase(0, 0), 995);
        Check.eq("17 noise of tone 1", y.phase(0, 1), 682);
    }

    // Promise 18
    private static void setSeed() {
        RangingStation x = Check.withTones(100000, 1000);
        Check.eq("18 least", x.setSeed(Integer.MIN_VALUE), 0);
        Check.eq("18 greatest", x.setSeed(Integer.MAX_VALUE), Integer.MIN_VALUE);
        Check.eq("18 previous", x.setSeed(7), Integer.MAX_VALUE);
        x.calibrate(3);
        Check.eq("18 nothing drawn without noise", x.setSeed(7), 7);
        x.setNoise(1);
        x.calibrate(1);
        Check.eq("18 one number a phase", x.setSeed(0), 642666333);
        x.calibrate(3);
        Check.eq("18 six phases", x.setSeed(-1), -1038148470);
        x.beginPass();
        x.observe();
        Check.eq("18 two phases of an observation", x.setSeed(0), 288979989);
    }

    // Promise 19
    private static void setDopplerWavelength() {
        RangingStation x = Check.withTones(100000);
        Check.eq("19 least", x.setDopplerWavelength(1), 100);
        Check.eq("19 greatest", x.setDopplerWavelength(10000), 1);
        Check.fails("19 too great", ARGUMENT, () -> x.setDopplerWavelength(10001));
        Check.fails("19 zero", ARGUMENT, () -> x.setDopplerWavelength(0));
        Check.fails("19 negative", ARGUMENT, () -> x.setDopplerWavelength(-5));
        x.beginPass();
        Check.fails("19 in a pass", STATE, () -> x.setDopplerWavelength(5));
        Check.fails("19 wrong in a pass", ARGUMENT, () -> x.setDopplerWavelength(0));
        x.endPass();
        Check.eq("19 unchanged", x.setDopplerWavelength(5), 10000);
    }

    // Promise 20
    private static void calibrate() {
        RangingStation x = Check.withTones(100000);
        x.setTruth(54321, 9);
        x.setDelay(0, 5555);
        Check.eq("20 the range is 0", x.calibrate(1), 5500);
        Check.eq("20 twenty samples", x.calibrate(20), 5500);
        x.addTone(1000);
        Check.eq("20 two tones", x.calibrate(2), 5555);
        x.setDelay(0, 105555);
        Check.eq("20 no more than the longest wavelength", x.calibrate(1), 5555);
        Check.eq("21 the latest", x.delayEstimate(0), 5555);
        Check.eq("20 the time stays", x.time(), 0);
        Check.eq("20 the truth stays", x.trueRange(), 54321);
    }

    private static void calibrateRefused() {
        RangingStation x = new RangingStation();
        Check.fails("20 no tones", STATE, () -> x.calibrate(1));
        Check.fails("20 no tones and no samples", ARGUMENT, () -> x.calibrate(0));
        x.addTone(100000);
        Check.fails("20 no samples", ARGUMENT, () -> x.calibrate(0));
        Check.fails("20 21 samples", ARGUMENT, () -> x.calibrate(21));
        Check.fails("20 negative", ARGUMENT, () -> x.calibrate(-1));
        x.setNoise(5);
        x.beginPass();
        Check.fails("20 in a pass", STATE, () -> x.calibrate(1));
        Check.fails("20 wrong in a pass", ARGUMENT, () -> x.calibrate(21));
        Check.eq("20 nothing drawn", x.setSeed(0), 0);
        Check.fails("20 nothing noted", NoSuchElementException.class, () -> x.delayEstimate(0));
        Check.fails("20 no station noted", INDEX, () -> x.calibratedStation(0));
    }

    private static void calibrateWithNoise() {
        RangingStation x = Check.withTones(1000000);
        x.setDelay(0, 100000);
        x.setNoise(30000);
        // The noises are -30000 and 24236, the estimates 70000 and 124000.
        Check.eq("20 mean of two", x.calibrate(2), 97000);
        // 12756, 24885, -26502: 112000, 124000 and 73000
        Check.eq("20 the generator goes on", x.calibrate(3), 103000);
    }

    private static void calibrateRoundsDown() {
        RangingStation x = Check.withTones(1000);
        x.setNoise(500);
        x.setSeed(1);
        // 322, -12 and -397: 322, 988 and 603
        Check.eq("20 1913 / 3", x.calibrate(3), 637);
        RangingStation y = Check.withTones(10000, 1000);
        y.setNoise(100);
        y.setSeed(2);
        // 9, 4, 94 and -45: the estimates are 4 and -45, and -41 / 2 rounds down.
        Check.eq("20 a negative mean", y.calibrate(2), -21);
        Check.eq("21 a negative estimate", y.delayEstimate(0), -21);
    }

    private static void calibrateResolves() {
        RangingStation x = Check.withTones(10000, 1000);
        x.setNoise(500);
        x.setSeed(1);
        // 322 and -12: phases 32 and 988, 320 - 988 is nearest to -1 * 1000
        Check.eq("20 below 0", x.calibrate(1), -12);
        // -397 and -267: phases 960 and 733, 9600 - 733 is nearest to 9 * 1000
        Check.eq("20 from above", x.calibrate(1), 9733);
        x.setSeed(1);
        Check.eq("20 (9733 - 12) / 2", x.calibrate(2), 4860);
    }

    // Promise 21
    private static void delayEstimate() {
        RangingStation x = Check.withTones(100000);
        x.setDelay(9, 4400);
        x.setStation(9);
        Check.fails("21 not yet", NoSuchElementException.class, () -> x.delayEstimate(9));
        x.calibrate(1);
        Check.eq("21 last station", x.delayEstimate(9), 4400);
        x.setDelay(9, 0);
        Check.eq("21 not the delay", x.delayEstimate(9), 4400);
        x.calibrate(1);
        Check.eq("21 an estimate of 0", x.delayEstimate(9), 0);
        Check.fails("21 another", NoSuchElementException.class, () -> x.delayEstimate(0));
        Check.fails("21 station 10", ARGUMENT, () -> x.delayEstimate(10));
        Check.fails("21 station -1", ARGUMENT, () -> x.delayEstimate(-1));
    }

    // Promise 22
    private static void calibratedStation() {
        RangingStation x = Check.withTones(100000);
        int[] order = {3, 0, 9, 1, 8, 2, 7, 4, 6, 5};
        for (int i = 0; i < 10; i++) {
            int k = i;
            Check.fails("22 not yet", INDEX, () -> x.calibratedStation(k));
            x.setStation(order[i]);
            x.calibrate(1);
            x.setStation(3);
            x.calibrate(1);
        }
        for (int i = 0; i < 10; i++) {
            Check.eq("22 in the order of the first time", x.calibratedStation(i), order[i]);
        }
        Check.fails("22 index 10", INDEX, () -> x.calibratedStation(10));
        Check.fails("22 index -1", INDEX, () -> x.calibratedStation(-1));
        Check.fails("22 least int", INDEX, () -> x.calibratedStation(Integer.MIN_VALUE));
    }
}
