/** Promises 23 to 33. */
final class PassesTest {
    private static final Class<IllegalArgumentException> ARGUMENT = IllegalArgumentException.class;
    private static final Class<IllegalStateException> STATE = IllegalStateException.class;
    private static final Class<IndexOutOfBoundsException> INDEX = IndexOutOfBoundsException.class;

    public static void main(String[] args) {
        beginPass();
        twentyPasses();
        endPass();
        observe();
        hundredObservations();
        addSlip();
        observationsOfPasses();
        timesAndPasses();
        phase();
        phaseAtTheEdges();
        phaseWithNoise();
        tonesOfAPass();
        dopplerCount();
        dopplerCountBelowZero();
        distinctTimes();
        Check.finish("PassesTest");
    }

    // Promises 23 and 27
    private static void beginPass() {
        RangingStation x = new RangingStation();
        Check.fails("23 no tones", STATE, () -> x.beginPass());
        Check.eq("27 none", x.passCount(), 0);
        x.addTone(1000);
        Check.eq("23 first", x.beginPass(), 0);
        Check.eq("27 running", x.passCount(), 1);
        Check.fails("23 one is running", STATE, () -> x.beginPass());
        Check.eq("27 unchanged", x.passCount(), 1);
        x.endPass();
        Check.eq("27 ended", x.passCount(), 1);
        Check.eq("23 second", x.beginPass(), 1);
    }

    private static void twentyPasses() {
        RangingStation x = Check.withTones(1000);
        for (int i = 0; i < 20; i++) {
            Check.eq("23 pass", x.beginPass(), i);
            x.endPass();
        }
        Check.fails("23 pass 20", STATE, () -> x.beginPass());
        Check.eq("27 twenty", x.passCount(), 20);
        Check.eq("23 the tones stay free", x.removeTone(), 0);
    }

    // Promise 24
    private static void endPass() {
        RangingStation x = Check.withTones(1000);
        Check.fails("24 none", STATE, () -> x.endPass());
        x.beginPass();
        Check.eq("24 without observations", x.endPass(), 0);
        Check.fails("24 ended", STATE, () -> x.endPass());
        x.beginPass();
        x.observe();
        x.observe();
        x.observe();
        Check.eq("24 its own observations", x.endPass(), 3);
        x.beginPass();
        x.observe();
        Check.eq("24 those of the last pass", x.endPass(), 1);
    }

    // Promise 25
    private static void observe() {
        RangingStation x = Check.withTones(1000);
        Check.fails("25 no pass", STATE, () -> x.observe());
        x.beginPass();
        Check.eq("25 first", x.observe(), 0);
        Check.eq("25 at the same time", x.observe(), 1);
        x.endPass();
        Check.fails("25 after a pass", STATE, () -> x.observe());
        x.beginPass();
        Check.eq("25 numbered on", x.observe(), 2);
        Check.eq("25 the time stays", x.time(), 0);
    }

    private static void hundredObservations() {
        RangingStation x = Check.withTones(6000, 5000, 4000, 3000, 2000, 1000);
        x.beginPass();
        for (int i = 0; i < 100; i++) {
            if (i == 60) {
                x.endPass();
                x.beginPass();
            }
            Check.eq("25 observation", x.observe(), i);
        }
        x.setNoise(10);
        Check.fails("25 observation 100", STATE, () -> x.observe());
        Check.eq("25 nothing drawn", x.setSeed(0), 0);
        Check.eq("28 unchanged", x.observations(1), 40);
        Check.eq("30 the last", x.observationPass(99), 1);
        Check.fails("30 none of number 100", INDEX, () -> x.observationPass(100));
        Check.eq("24 with 100 in all", x.endPass(), 40);
        Check.eq("23 a pass goes on", x.beginPass(), 2);
        Check.fails("25 in it too", STATE, () -> x.observe());
    }

    // Promise 26
    private static void addSlip() {
        RangingStation x = Check.withTones(1000);
        Check.fails("26 no pass", STATE, () -> x.addSlip(1));
        Check.fails("26 too great without a pass", ARGUMENT, () -> x.addSlip(1001));
        x.beginPass();
        Check.eq("26 greatest", x.addSlip(1000), 1000);
        Check.eq("26 sum", x.addSlip(1000), 2000);
        Check.eq("26 least", x.addSlip(-1000), 1000);
        Check.eq("26 zero", x.addSlip(0), 1000);
        Check.fails("26 too great", ARGUMENT, () -> x.addSlip(1001));
        Check.fails("26 too small", ARGUMENT, () -> x.addSlip(-1001));
        x.observe();
        Check.eq("32 with slips", x.dopplerCount(0), 1000);
        Check.eq("26 unchanged", x.addSlip(-1), 999);
        Check.eq("32 slips come later", x.dopplerCount(0), 1000);
        x.endPass();
        x.beginPass();
        x.observe();
        Check.eq("32 a new pass", x.dopplerCount(1), 0);
        Check.eq("26 a new sum", x.addSlip(-7), -7);
    }

    // Promise 28
    private static void observationsOfPasses() {
        RangingStation x = Check.withTones(1000);
        Check.fails("28 none", INDEX, () -> x.observations(0));
        x.beginPass();
        Check.eq("28 empty", x.observations(0), 0);
        x.observe();
        x.observe();
        Check.eq("28 running", x.observations(0), 2);
        x.endPass();
        x.beginPass();
        x.observe();
        Check.eq("28 ended", x.observations(0), 2);
        Check.eq("28 next", x.observations(1), 1);
        Check.fails("28 pass 2", INDEX, () -> x.observations(2));
        Check.fails("28 pass -1", INDEX, () -> x.observations(-1));
        Check.fails("28 pass 20", INDEX, () -> x.observations(20));
    }

    // Promises 29 and 30
    private static void timesAndPasses() {
        RangingStation x = Check.withTones(1000);
        x.run(5);
        x.beginPass();
        x.observe();
        x.run(1000);
        x.observe();
        x.endPass();
        x.run(1);
        x.beginPass();
        x.endPass();
        x.beginPass();
        x.observe();
        x.run(1);
        Check.eq("29 first", x.observationTime(0), 5);
        Check.eq("29 second", x.observationTime(1), 1005);
        Check.eq("29 third", x.observationTime(2), 1006);
        Check.eq("30 first", x.observationPass(0), 0);
        Check.eq("30 second", x.observationPass(1), 0);
        Check.eq("30 third", x.observationPass(2), 2);
        Check.fails("29 none", INDEX, () -> x.observationTime(3));
        Check.fails("29 negative", INDEX, () -> x.observationTime(-1));
        Check.fails("30 none", INDEX, () -> x.observationPass(3));
        Check.fails("30 greatest int", INDEX, () -> x.observationPass(Integer.MAX_VALUE));
    }

    // Promise 31
    private static void phase() {
        RangingStation x = Check.withTones(1000000, 10000, 1000);
        x.setTruth(1234567, 0);
        x.beginPass();
        x.observe();
        Check.eq("31 tone 0", x.phase(0, 0), 234);
        Check.eq("31 tone 1", x.phase(0, 1), 456);
        Check.eq("31 tone 2", x.phase(0, 2), 567);
        Check.fails("31 tone 3", INDEX, () -> x.phase(0, 3));
        Check.fails("31 tone -1", INDEX, () -> x.phase(0, -1));
        Check.fails("31 observation 1", INDEX, () -> x.phase(1, 0));
        Check.fails("31 observation -1", INDEX, () -> x.phase(-1, 0));
        x.setDelay(0, 1433);
        x.observe();
        Check.eq("31 with the delay", x.phase(1, 0), 236);
        Check.eq("31 the delay over the end", x.phase(1, 2), 0);
        Check.eq("31 kept", x.phase(0, 0), 234);
    }

    private static void phaseAtTheEdges() {
        RangingStation x = Check.withTones(1000000000000L, 999999999999L, 1001);
        x.setTruth(999999999999L, -10000000);
        x.beginPass();
        x.observe();
        Check.eq("31 greatest", x.phase(0, 0), 999);
        Check.eq("31 least", x.phase(0, 1), 0);
        // 999999999999 mod 1001 = 0
        Check.eq("31 a wavelength of 1001", x.phase(0, 2), 0);
        x.endPass();
        x.setTruth(0, -1);
        x.run(1);
        x.beginPass();
        x.observe();
        Check.eq("31 negative range", x.phase(1, 0), 999);
        Check.eq("31 1000 * 1000 / 1001", x.phase(1, 2), 999);
        x.run(1);
        x.observe();
        // 999 * 1000 / 1001
        Check.eq("31 rounds down", x.phase(2, 2), 998);
    }

    private static void phaseWithNoise() {
        RangingStation x = Check.withTones(1000000, 1000);
        x.setTruth(100000, 0);
        x.setNoise(30000);
        x.beginPass();
        x.observe();
        // -30000 and 24236
        Check.eq("31 noise of tone 0", x.phase(0, 0), 70);
        Check.eq("31 noise of tone 1", x.phase(0, 1), 236);
        x.observe();
        // 12756 and 24885
        Check.eq("31 next noise of tone 0", x.phase(1, 0), 112);
        Check.eq("31 next noise of tone 1", x.phase(1, 1), 885);
    }

    private static void tonesOfAPass() {
        RangingStation x = Check.withTones(100000, 1000);
        x.setTruth(12345, 0);
        x.beginPass();
        x.observe();
        x.endPass();
        x.removeTone();
        x.removeTone();
        x.addTone(20000);
        x.beginPass();
        x.observe();
        Check.eq("31 the tones of its pass", x.phase(0, 1), 345);
        Check.eq("31 the tones of the other", x.phase(1, 0), 617);
        Check.fails("31 no tone of its pass", INDEX, () -> x.phase(1, 1));
        Check.eq("36 with the tones of its pass", x.range(0), 12345);
        Check.eq("36 with the tones of the other", x.range(1), -7660);
    }

    // Promise 32
    private static void dopplerCount() {
        RangingStation x = Check.withTones(100000);
        x.setTruth(1050, 75);
        x.beginPass();
        x.observe();
        x.run(1);
        x.observe();
        x.addSlip(3);
        x.run(1);
        x.observe();
        x.addSlip(-10);
        x.observe();
        Check.eq("32 at the beginning", x.dopplerCount(0), 0);
        // floor(1125 / 100) - floor(1050 / 100)
        Check.eq("32 after a second", x.dopplerCount(1), 1);
        Check.eq("32 after a slip", x.dopplerCount(2), 5);
        Check.eq("32 after two slips", x.dopplerCount(3), -5);
        Check.fails("32 none", INDEX, () -> x.dopplerCount(4));
        Check.fails("32 negative", INDEX, () -> x.dopplerCount(-1));
        x.endPass();
        x.setDopplerWavelength(1);
        x.beginPass();
        x.run(1);
        x.observe();
        Check.eq("32 another wavelength", x.dopplerCount(4), 75);
        Check.eq("32 kept", x.dopplerCount(1), 1);
    }

    private static void dopplerCountBelowZero() {
        RangingStation x = Check.withTones(100000);
        x.setTruth(50, -60);
        x.setDopplerWavelength(10000);
        x.beginPass();
        x.run(1);
        x.observe();
        // floor(-10 / 10000) - floor(50 / 10000)
        Check.eq("32 rounds down", x.dopplerCount(0), -1);
        x.endPass();
        x.beginPass();
        x.run(1);
        x.observe();
        Check.eq("32 from below 0", x.dopplerCount(1), 0);
    }

    // Promise 33
    private static void distinctTimes() {
        RangingStation x = Check.withTones(1000);
        x.run(3);
        x.beginPass();
        Check.eq("33 none", x.distinctTimes(), 0);
        x.observe();
        x.observe();
        Check.eq("33 the same", x.distinctTimes(), 1);
        x.endPass();
        x.beginPass();
        x.observe();
        Check.eq("33 the same in another pass", x.distinctTimes(), 1);
        x.run(1);
        x.observe();
        x.run(1);
        Check.eq("33 another", x.distinctTimes(), 2);
        RangingStation y = Check.withTones(1000);
        y.beginPass();
        for (int i = 0; i < 100; i++) {
            y.observe();
            y.run(1);
        }
        Check.eq("33 a hundred", y.distinctTimes(), 100);
    }
}
