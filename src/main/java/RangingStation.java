import java.util.Arrays;
import java.util.NoSuchElementException;

/**
 * A simulator of a satellite ranging station that uses sidetone ranging.
 * Lengths are in millimetres, times in seconds.
 */
public final class RangingStation {
    private static final long GREATEST_RANGE = 10000000000000L;
    private static final int GREATEST_RATE = 10000000;
    private static final int MOST_SEGMENTS = 20;
    private static final int GREATEST_STEP = 1000;
    private static final int GREATEST_ACCELERATION = 10000;
    private static final int LAST_TIME = 1000000;
    private static final int STATIONS = 10;
    private static final long GREATEST_DELAY = 1000000000L;
    private static final int MOST_TONES = 6;
    private static final long LEAST_WAVELENGTH = 1000L;
    private static final long GREATEST_WAVELENGTH = 1000000000000L;
    private static final int PHASE_UNITS = 1000;
    private static final int GREATEST_NOISE = 30000;
    private static final int GREATEST_DOPPLER_WAVELENGTH = 10000;
    private static final int MOST_SAMPLES = 20;
    private static final int MOST_PASSES = 20;
    private static final int MOST_OBSERVATIONS = 100;
    private static final int GREATEST_SLIP = 1000;
    private static final long GREATEST_THRESHOLD = 1000000000L;
    private static final int GREATEST_WINDOW = 50;

    private final Motion motion = new Motion();
    private final Motion preview = new Motion();
    private int clock = 0;

    private final Station[] stations = new Station[STATIONS];
    private final Station[] calibrated = new Station[STATIONS];
    private int calibratedCount = 0;
    private Station present;

    // Never written to: a pass shares it with the station, so a change of tones makes a new array.
    private long[] wavelengths = new long[0];
    private int dopplerWavelength = 100;
    private final Noise noise = new Noise();

    private final Pass[] passes = new Pass[MOST_PASSES];
    private int passesBegun = 0;
    private Pass running = null;
    private final Observation[] observations = new Observation[MOST_OBSERVATIONS];
    private int observationsMade = 0;

    private long aPriori = 0;
    private long slipThreshold = 1000;
    private int window = 10;

    public RangingStation() {
        for (int i = 0; i < stations.length; i++) {
            stations[i] = new Station(i);
        }
        present = stations[0];
    }

    // ---- motion

    public void setTruth(long range, int rate) throws IllegalArgumentException, IllegalStateException {
        requireWithin(range, 0, GREATEST_RANGE);
        requireWithin(rate, -GREATEST_RATE, GREATEST_RATE);
        requireNoPass();
        motion.range = range;
        motion.rate = rate;
    }

    public int addSegment(int seconds, int acceleration) throws IllegalArgumentException, IllegalStateException {
        requireWithin(seconds, 1, GREATEST_STEP);
        requireWithin(acceleration, -GREATEST_ACCELERATION, GREATEST_ACCELERATION);
        if (motion.segments >= MOST_SEGMENTS) {
            throw new IllegalStateException("the script is full");
        }
        motion.append(seconds, acceleration);
        return motion.segments;
    }

    public int clearScript() {
        int removed = motion.segments;
        motion.segments = 0;
        return removed;
    }

    public int run(int seconds) throws IllegalArgumentException, IllegalStateException {
        requireWithin(seconds, 1, GREATEST_STEP);
        if (clock + seconds > LAST_TIME) {
            throw new IllegalStateException("the time would exceed its limit");
        }
        for (int i = 0; i < seconds; i++) {
            motion.step();
        }
        clock += seconds;
        return clock;
    }

    public int time() {
        return clock;
    }

    public long trueRange() {
        return motion.range;
    }

    public int trueRate() {
        return motion.rate;
    }

    public long trueRangeIn(int seconds) throws IllegalArgumentException {
        requireWithin(seconds, 0, GREATEST_STEP);
        preview.copyFrom(motion);
        for (int i = 0; i < seconds; i++) {
            preview.step();
        }
        return preview.range;
    }

    public int closestApproach(int seconds) throws IllegalArgumentException {
        requireWithin(seconds, 0, GREATEST_STEP);
        preview.copyFrom(motion);
        long least = preview.range;
        int when = 0;
        for (int i = 1; i <= seconds; i++) {
            preview.step();
            if (preview.range < least) {
                least = preview.range;
                when = i;
            }
        }
        return when;
    }

    // ---- stations and tones

    public long setDelay(int station, long delay) throws IllegalArgumentException {
        Station changed = stationAt(station);
        requireWithin(delay, 0, GREATEST_DELAY);
        long previous = changed.delay;
        changed.delay = delay;
        return previous;
    }

    public int setStation(int station) throws IllegalArgumentException, IllegalStateException {
        Station next = stationAt(station);
        requireNoPass();
        int previous = present.number;
        present = next;
        return previous;
    }

    public int addTone(long wavelength) throws IllegalArgumentException, IllegalStateException {
        requireWithin(wavelength, LEAST_WAVELENGTH, GREATEST_WAVELENGTH);
        int count = wavelengths.length;
        if (count > 0 && wavelength >= wavelengths[count - 1]) {
            throw new IllegalArgumentException("not less than the last wavelength");
        }
        if (count >= MOST_TONES) {
            throw new IllegalStateException("there are no more tones to be had");
        }
        requireNoPass();
        long[] longer = Arrays.copyOf(wavelengths, count + 1);
        longer[count] = wavelength;
        wavelengths = longer;
        return wavelengths.length;
    }

    public int removeTone() throws IllegalStateException {
        requireTones();
        requireNoPass();
        wavelengths = Arrays.copyOf(wavelengths, wavelengths.length - 1);
        return wavelengths.length;
    }

    public int toneCount() {
        return wavelengths.length;
    }

    public long wavelength(int tone) throws IndexOutOfBoundsException {
        requireTone(wavelengths, tone);
        return wavelengths[tone];
    }

    public int setNoise(int amplitude) throws IllegalArgumentException {
        requireWithin(amplitude, 0, GREATEST_NOISE);
        int previous = noise.amplitude;
        noise.amplitude = amplitude;
        return previous;
    }

    public int setSeed(int seed) {
        int previous = noise.state;
        noise.state = seed;
        return previous;
    }

    public int setDopplerWavelength(int wavelength) throws IllegalArgumentException, IllegalStateException {
        requireWithin(wavelength, 1, GREATEST_DOPPLER_WAVELENGTH);
        requireNoPass();
        int previous = dopplerWavelength;
        dopplerWavelength = wavelength;
        return previous;
    }

    public long calibrate(int samples) throws IllegalArgumentException, IllegalStateException {
        requireWithin(samples, 1, MOST_SAMPLES);
        requireTones();
        requireNoPass();
        Reading sample = new Reading(wavelengths);
        long sum = 0;
        for (int i = 0; i < samples; i++) {
            sample.measure(present.delay, noise);
            sum += sample.lastEstimate();
        }
        noteCalibration(present);
        present.estimate = floorDivide(sum, samples);
        return present.estimate;
    }

    public long delayEstimate(int station) throws IllegalArgumentException, NoSuchElementException {
        Station asked = stationAt(station);
        if (!asked.isCalibrated) {
            throw new NoSuchElementException("the station has not been calibrated");
        }
        return asked.estimate;
    }

    public int calibratedStation(int k) throws IndexOutOfBoundsException {
        if (k < 0 || k >= calibrated.length || calibrated[k] == null) {
            throw new IndexOutOfBoundsException("no such calibrated station");
        }
        return calibrated[k].number;
    }

    // ---- passes and observations

    public int beginPass() throws IllegalStateException {
        requireNoPass();
        requireTones();
        if (passesBegun >= passes.length) {
            throw new IllegalStateException("there are no more passes to be had");
        }
        Pass begun = new Pass(passesBegun, present, wavelengths, dopplerWavelength);
        begun.cyclesAtBegin = floorDivide(motion.range, dopplerWavelength);
        passes[passesBegun] = begun;
        passesBegun++;
        running = begun;
        return begun.number;
    }

    public int endPass() throws IllegalStateException {
        Pass ended = runningPass();
        running = null;
        return ended.count;
    }

    public int observe() throws IllegalStateException {
        Pass pass = runningPass();
        if (observationsMade >= observations.length) {
            throw new IllegalStateException("there are no more observations to be had");
        }
        Observation made = new Observation(pass, clock, cyclesNow(pass));
        made.reading.measure(motion.range + pass.station.delay, noise);
        pass.append(made);
        observations[observationsMade] = made;
        observationsMade++;
        return observationsMade - 1;
    }

    public long addSlip(int cycles) throws IllegalArgumentException, IllegalStateException {
        requireWithin(cycles, -GREATEST_SLIP, GREATEST_SLIP);
        Pass pass = runningPass();
        pass.slipSum += cycles;
        return pass.slipSum;
    }

    public int passCount() {
        return passesBegun;
    }

    public int observations(int pass) throws IndexOutOfBoundsException {
        return passAt(pass).count;
    }

    public int observationTime(int observation) throws IndexOutOfBoundsException {
        return observationAt(observation).time;
    }

    public int observationPass(int observation) throws IndexOutOfBoundsException {
        return observationAt(observation).pass.number;
    }

    public int phase(int observation, int tone) throws IndexOutOfBoundsException {
        Reading reading = observationAt(observation).reading;
        requireTone(reading.wavelengths, tone);
        return reading.phases[tone];
    }

    public long dopplerCount(int observation) throws IndexOutOfBoundsException {
        return observationAt(observation).cycles;
    }

    public int distinctTimes() {
        int times = 0;
        int latest = -1;
        // The time never goes back, so equal times stand side by side.
        for (int i = 0; i < observations.length && observations[i] != null; i++) {
            if (observations[i].time != latest) {
                latest = observations[i].time;
                times++;
            }
        }
        return times;
    }

    // ---- ranges

    public long setAPriori(long range) throws IllegalArgumentException {
        requireWithin(range, 0, GREATEST_RANGE);
        long previous = aPriori;
        aPriori = range;
        return previous;
    }

    public long rangeAfter(int observation, int tone) throws IndexOutOfBoundsException {
        Observation asked = observationAt(observation);
        requireTone(asked.pass.wavelengths, tone);
        return rangeFrom(asked.reading.estimates[tone], asked.pass, asked.pass.multiple);
    }

    public long range(int observation) throws IndexOutOfBoundsException {
        return rangeOf(observationAt(observation));
    }

    public long correction(int observation, int tone) throws IndexOutOfBoundsException {
        Reading reading = observationAt(observation).reading;
        requireTone(reading.wavelengths, tone);
        return reading.correctionOf(tone);
    }

    public boolean isWeak(int observation, int tone) throws IndexOutOfBoundsException {
        Reading reading = observationAt(observation).reading;
        requireTone(reading.wavelengths, tone);
        return reading.isWeakAt(tone);
    }

    public int weakIn(int pass, int tone) throws IndexOutOfBoundsException {
        Pass asked = passAt(pass);
        requireTone(asked.wavelengths, tone);
        int weak = 0;
        for (Observation o = asked.first; o != null; o = o.next) {
            if (o.reading.isWeakAt(tone)) {
                weak++;
            }
        }
        return weak;
    }

    // ---- Doppler

    public long predicted(int observation) throws IndexOutOfBoundsException, NoSuchElementException {
        return predictedOf(observationAt(observation));
    }

    public long innovation(int observation) throws IndexOutOfBoundsException, NoSuchElementException {
        return innovationOf(observationAt(observation));
    }

    public long setSlipThreshold(long threshold) throws IllegalArgumentException {
        requireWithin(threshold, 0, GREATEST_THRESHOLD);
        long previous = slipThreshold;
        slipThreshold = threshold;
        return previous;
    }

    public int slips(int pass) throws IndexOutOfBoundsException {
        int found = 0;
        for (Observation o = passAt(pass).first; o != null; o = o.next) {
            if (o.before != null && Math.abs(innovationOf(o)) > slipThreshold) {
                found++;
            }
        }
        return found;
    }

    public double meanInnovation(int pass) throws IndexOutOfBoundsException, NoSuchElementException {
        return meanOf(passAt(pass));
    }

    public double varianceInnovation(int pass) throws IndexOutOfBoundsException, NoSuchElementException {
        Pass asked = passAt(pass);
        double mean = meanOf(asked);
        double sum = 0.0;
        for (Observation o = asked.first; o != null; o = o.next) {
            if (o.before != null) {
                double difference = (double) innovationOf(o) - mean;
                sum += difference * difference;
            }
        }
        return sum / (double) (asked.count - 1);
    }

    public int setWindow(int window) throws IllegalArgumentException {
        requireWithin(window, 1, GREATEST_WINDOW);
        int previous = this.window;
        this.window = window;
        return previous;
    }

    public long smoothed(int observation) throws IndexOutOfBoundsException {
        return smoothedOf(observationAt(observation));
    }

    // ---- lines and joined passes

    public double lineRate(int pass) throws IndexOutOfBoundsException, ArithmeticException {
        return lineOf(passAt(pass)).rateOfLine();
    }

    public double lineOffset(int pass) throws IndexOutOfBoundsException, ArithmeticException {
        return lineOf(passAt(pass)).offsetOfLine();
    }

    public double residual(int observation) throws IndexOutOfBoundsException, ArithmeticException {
        Observation asked = observationAt(observation);
        Line line = lineOf(asked.pass);
        double onLine = line.offsetOfLine() + line.rateOfLine() * timeInPass(asked);
        return rangeInPass(asked) - onLine;
    }

    public long join(int pass) throws IndexOutOfBoundsException, IllegalStateException {
        Pass later = passAt(pass);
        // Of pass 0 there is none before: -1 is refused here.
        Pass earlier = passAt(pass - 1);
        Observation start = later.first;
        Observation end = earlier.last;
        if (start == null || end == null || !earlier.hasTwoTimes()) {
            throw new IllegalStateException("too few observations to join the pass");
        }
        long expected = smoothedOf(end) + dopplerRate(earlier) * (start.time - end.time);
        long unjoined = rangeFrom(start.reading.lastEstimate(), later, 0);
        later.multiple = nearestMultiple(later.longest, expected - unjoined);
        later.isJoined = true;
        return later.multiple;
    }

    public long ambiguity(int pass) throws IndexOutOfBoundsException {
        return passAt(pass).multiple;
    }

    public int longestChain() {
        int longest = 0;
        int chain = 0;
        for (int i = 0; i < passes.length && passes[i] != null; i++) {
            chain = passes[i].isJoined ? chain + 1 : 1;
            longest = Math.max(longest, chain);
        }
        return longest;
    }

    // ---- what the methods ask of their arguments and of the state

    private static void requireWithin(long value, long least, long greatest) {
        if (value < least || value > greatest) {
            throw new IllegalArgumentException("a parameter is out of range");
        }
    }

    private static void requireTone(long[] tones, int tone) {
        if (tone < 0 || tone >= tones.length) {
            throw new IndexOutOfBoundsException("no such tone");
        }
    }

    private void requireTones() {
        if (wavelengths.length == 0) {
            throw new IllegalStateException("there are no tones");
        }
    }

    private void requireNoPass() {
        if (running != null) {
            throw new IllegalStateException("a pass is running");
        }
    }

    private Pass runningPass() {
        if (running == null) {
            throw new IllegalStateException("no pass is running");
        }
        return running;
    }

    private Station stationAt(int station) {
        if (station < 0 || station >= stations.length) {
            throw new IllegalArgumentException("no such station");
        }
        return stations[station];
    }

    private Pass passAt(int pass) {
        if (pass < 0 || pass >= passes.length || passes[pass] == null) {
            throw new IndexOutOfBoundsException("no such pass");
        }
        return passes[pass];
    }

    private Observation observationAt(int observation) {
        if (observation < 0 || observation >= observations.length || observations[observation] == null) {
            throw new IndexOutOfBoundsException("no such observation");
        }
        return observations[observation];
    }

    // ---- arithmetic

    /** Divides and rounds down. All divisors here are positive; another one would make the machine throw. */
    private static long floorDivide(long dividend, long divisor) {
        return divisor <= 0 ? 0 : Math.floorDiv(dividend, divisor);
    }

    private static long nearestMultiple(long length, long target) {
        return length <= 0 ? 0 : Math.floorDiv(2 * target + length, 2 * length);
    }

    // ---- parts of the methods

    /** Keeps the order of the first calibrations: a station that has its place keeps it. */
    private void noteCalibration(Station station) {
        if (!station.isCalibrated && calibratedCount < calibrated.length) {
            calibrated[calibratedCount] = station;
            calibratedCount++;
            station.isCalibrated = true;
        }
    }

    private long cyclesNow(Pass pass) {
        return floorDivide(motion.range, pass.dopplerWavelength) - pass.cyclesAtBegin + pass.slipSum;
    }

    private long rangeFrom(long estimate, Pass pass, long multiple) {
        long bare = estimate - pass.station.estimate;
        long turns = nearestMultiple(pass.longest, aPriori - bare);
        return bare + turns * pass.longest + multiple * pass.longest;
    }

    private long rangeOf(Observation observation) {
        Pass pass = observation.pass;
        return rangeFrom(observation.reading.lastEstimate(), pass, pass.multiple);
    }

    private long predictedOf(Observation observation) {
        if (observation.before == null) {
            throw new NoSuchElementException("the first observation of a pass has no prediction");
        }
        return rangeOf(observation.before) + observation.dopplerChange;
    }

    private long innovationOf(Observation observation) {
        return rangeOf(observation) - predictedOf(observation);
    }

    private double meanOf(Pass pass) {
        if (pass.count < 2) {
            throw new NoSuchElementException("the pass has no innovations");
        }
        double sum = 0.0;
        for (Observation o = pass.first; o != null; o = o.next) {
            if (o.before != null) {
                sum += (double) innovationOf(o);
            }
        }
        return sum / (double) (pass.count - 1);
    }

    private long smoothedOf(Observation observation) {
        long smooth = 0;
        for (Observation o = observation.pass.first; o != null && o.place <= observation.place; o = o.next) {
            smooth = o.before == null ? rangeOf(o) : smoothedOnto(o, smooth);
        }
        return smooth;
    }

    private long smoothedOnto(Observation observation, long smoothBefore) {
        long weight = Math.min(observation.place + 1, window);
        long carried = smoothBefore + observation.dopplerChange;
        return floorDivide(rangeOf(observation) + (weight - 1) * carried, weight);
    }

    private Line lineOf(Pass pass) {
        // With two different times the divisor of the line's rate is not 0.
        if (!pass.hasTwoTimes()) {
            throw new ArithmeticException("too few different times for a line");
        }
        Line line = new Line();
        for (Observation o = pass.first; o != null; o = o.next) {
            line.put(timeInPass(o), rangeInPass(o));
        }
        return line;
    }

    private static double timeInPass(Observation observation) {
        Observation first = observation.pass.first;
        return first == null ? 0.0 : (double) (observation.time - first.time);
    }

    private double rangeInPass(Observation observation) {
        Observation first = observation.pass.first;
        return first == null ? 0.0 : (double) (rangeOf(observation) - rangeOf(first));
    }

    /** The Doppler rate over a pass that has two different times. */
    private static long dopplerRate(Pass pass) {
        Observation first = pass.first;
        Observation last = pass.last;
        if (first == null || last == null) {
            return 0;
        }
        long change = (last.cycles - first.cycles) * pass.dopplerWavelength;
        return floorDivide(change, last.time - first.time);
    }

    /** Where the spacecraft is, how fast it moves, and the script of what it will do. */
    private static final class Motion {
        long range = 0;
        int rate = 0;
        int segments = 0;
        private final int[] seconds = new int[MOST_SEGMENTS];
        private final int[] accelerations = new int[MOST_SEGMENTS];

        void append(int length, int acceleration) {
            if (segments < MOST_SEGMENTS) {
                seconds[segments] = length;
                accelerations[segments] = acceleration;
                segments++;
            }
        }

        void copyFrom(Motion other) {
            range = other.range;
            rate = other.rate;
            segments = other.segments;
            System.arraycopy(other.seconds, 0, seconds, 0, MOST_SEGMENTS);
            System.arraycopy(other.accelerations, 0, accelerations, 0, MOST_SEGMENTS);
        }

        void step() {
            int acceleration = segments > 0 ? accelerations[0] : 0;
            range += rate + Math.floorDiv(acceleration, 2);
            rate = Math.max(-GREATEST_RATE, Math.min(GREATEST_RATE, rate + acceleration));
            if (segments > 0) {
                seconds[0]--;
                if (seconds[0] == 0) {
                    removeFirst();
                }
            }
        }

        private void removeFirst() {
            for (int i = 1; i < segments; i++) {
                seconds[i - 1] = seconds[i];
                accelerations[i - 1] = accelerations[i];
            }
            segments--;
        }
    }

    /** The random generator and the amplitude of the noise that is drawn from it. */
    private static final class Noise {
        int state = 0;
        int amplitude = 0;

        int next() {
            if (amplitude <= 0) {
                return 0;
            }
            state = state * 1103515245 + 12345;
            return (state >>> 16) % (2 * amplitude + 1) - amplitude;
        }
    }

    /** A station; its delay estimate is 0 until it is calibrated. */
    private static final class Station {
        final int number;
        long delay = 0;
        long estimate = 0;
        boolean isCalibrated = false;

        Station(int number) {
            this.number = number;
        }
    }

    /** The phases of all tones, measured once, and what they resolve to. */
    private static final class Reading {
        final long[] wavelengths;
        final int[] phases;
        final long[] estimates;

        Reading(long[] wavelengths) {
            this.wavelengths = wavelengths;
            phases = new int[wavelengths.length];
            estimates = new long[wavelengths.length];
        }

        void measure(long path, Noise noise) {
            for (int k = 0; k < wavelengths.length; k++) {
                long length = wavelengths[k];
                long noisy = path + noise.next();
                long rest = noisy - length * floorDivide(noisy, length);
                phases[k] = (int) floorDivide(rest * PHASE_UNITS, length);
                long fine = floorDivide(phases[k] * length, PHASE_UNITS);
                estimates[k] = k == 0 ? fine : fine + length * nearestMultiple(length, estimates[k - 1] - fine);
            }
        }

        long lastEstimate() {
            return estimates.length == 0 ? 0 : estimates[estimates.length - 1];
        }

        long correctionOf(int tone) {
            boolean hasOne = tone > 0 && tone < estimates.length;
            return hasOne ? estimates[tone] - estimates[tone - 1] : 0;
        }

        boolean isWeakAt(int tone) {
            boolean exists = tone >= 0 && tone < wavelengths.length;
            return exists && 4 * Math.abs(correctionOf(tone)) > wavelengths[tone];
        }
    }

    /** A pass with what it keeps from its beginning, and the chain of its observations. */
    private static final class Pass {
        final int number;
        final Station station;
        final long[] wavelengths;
        final long longest;
        final int dopplerWavelength;
        long cyclesAtBegin = 0;
        long slipSum = 0;
        Observation first = null;
        Observation last = null;
        int count = 0;
        long multiple = 0;
        boolean isJoined = false;

        Pass(int number, Station station, long[] wavelengths, int dopplerWavelength) {
            this.number = number;
            this.station = station;
            this.wavelengths = wavelengths;
            longest = wavelengths.length == 0 ? 0 : wavelengths[0];
            this.dopplerWavelength = dopplerWavelength;
        }

        void append(Observation made) {
            if (last == null) {
                first = made;
            } else {
                last.next = made;
            }
            last = made;
            count++;
        }

        boolean hasTwoTimes() {
            return first != null && last != null && first.time != last.time;
        }
    }

    /** An observation, chained to the ones before and after it in its pass. */
    private static final class Observation {
        final Pass pass;
        final int time;
        final int place;
        final long cycles;
        final long dopplerChange;
        final Reading reading;
        final Observation before;
        Observation next = null;

        Observation(Pass pass, int time, long cycles) {
            this.pass = pass;
            this.time = time;
            this.cycles = cycles;
            place = pass.count;
            before = pass.last;
            dopplerChange = before == null ? 0 : (cycles - before.cycles) * pass.dopplerWavelength;
            reading = new Reading(pass.wavelengths);
        }
    }

    /** The sums of a straight line through points. */
    private static final class Line {
        private double points = 0.0;
        private double t = 0.0;
        private double y = 0.0;
        private double tt = 0.0;
        private double ty = 0.0;

        void put(double time, double length) {
            points += 1.0;
            t += time;
            y += length;
            tt += time * time;
            ty += time * length;
        }

        double rateOfLine() {
            return (points * ty - t * y) / (points * tt - t * t);
        }

        double offsetOfLine() {
            return (y - rateOfLine() * t) / points;
        }
    }
}
