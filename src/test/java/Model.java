import java.math.BigInteger;
import java.util.ArrayList;
import java.util.LinkedHashSet;
import java.util.List;
import java.util.NoSuchElementException;
import java.util.TreeSet;

/**
 * The document once more, in unbounded integers and lists, computing every answer anew from what was measured.
 * RandomRunsTest compares the class with it; it has the methods of the face, under their names.
 */
public final class Model {
    private static final class Seen {
        int pass;
        int time;
        BigInteger count;
        List<Integer> phases;
    }

    private static final class Span {
        int station;
        List<Long> tones;
        int w;
        BigInteger base;
        BigInteger slips = BigInteger.ZERO;
        BigInteger ambiguity = BigInteger.ZERO;
        boolean joined;
    }

    private BigInteger truth = BigInteger.ZERO;
    private int rate;
    private int now;
    private List<int[]> script = new ArrayList<>();
    private final long[] delays = new long[10];
    private final BigInteger[] estimates = new BigInteger[10];
    private final LinkedHashSet<Integer> order = new LinkedHashSet<>();
    private int station;
    private final List<Long> tones = new ArrayList<>();
    private int w = 100;
    private int noise;
    private int seed;
    private final List<Span> spans = new ArrayList<>();
    private boolean running;
    private final List<Seen> seen = new ArrayList<>();
    private BigInteger prior = BigInteger.ZERO;
    private long threshold = 1000;
    private int window = 10;

    private static BigInteger big(long a) {
        return BigInteger.valueOf(a);
    }

    private static BigInteger floor(BigInteger a, BigInteger b) {
        BigInteger[] parts = a.divideAndRemainder(b);
        return parts[1].signum() < 0 ? parts[0].subtract(BigInteger.ONE) : parts[0];
    }

    private static BigInteger nearest(BigInteger length, BigInteger to) {
        return floor(to.shiftLeft(1).add(length), length.shiftLeft(1));
    }

    private static void argument(boolean right) {
        if (!right) {
            throw new IllegalArgumentException();
        }
    }

    private static void state(boolean right) {
        if (!right) {
            throw new IllegalStateException();
        }
    }

    private static void index(boolean right) {
        if (!right) {
            throw new IndexOutOfBoundsException();
        }
    }

    private static void element(boolean right) {
        if (!right) {
            throw new NoSuchElementException();
        }
    }

    private static boolean within(long a, long least, long greatest) {
        return least <= a && a <= greatest;
    }

    // The state of a motion is the range, the rate and the segments that are left.

    private List<BigInteger> ranges(int seconds) {
        List<BigInteger> all = new ArrayList<>();
        BigInteger r = truth;
        int v = rate;
        int passed = 0;
        all.add(r);
        for (int i = 0; i < seconds; i++) {
            int a = accelerationAfter(passed++);
            r = r.add(big(v)).add(floor(big(a), big(2)));
            v = limited(v + a);
            all.add(r);
        }
        return all;
    }

    private int accelerationAfter(int seconds) {
        int until = 0;
        for (int[] segment : script) {
            until += segment[0];
            if (seconds < until) {
                return segment[1];
            }
        }
        return 0;
    }

    private static int limited(int v) {
        return v > 10000000 ? 10000000 : v < -10000000 ? -10000000 : v;
    }

    public void setTruth(long range, int newRate) {
        argument(within(range, 0, 10000000000000L) && within(newRate, -10000000, 10000000));
        state(!running);
        truth = big(range);
        rate = newRate;
    }

    public int addSegment(int seconds, int acceleration) {
        argument(within(seconds, 1, 1000) && within(acceleration, -10000, 10000));
        state(script.size() < 20);
        script.add(new int[] {seconds, acceleration});
        return script.size();
    }

    public int clearScript() {
        int removed = script.size();
        script = new ArrayList<>();
        return removed;
    }

    public int run(int seconds) {
        argument(within(seconds, 1, 1000));
        state(now + seconds <= 1000000);
        BigInteger then = ranges(seconds).get(seconds);
        for (int i = 0; i < seconds; i++) {
            rate = limited(rate + accelerationAfter(i));
        }
        truth = then;
        int left = seconds;
        while (left > 0 && !script.isEmpty()) {
            int used = Math.min(left, script.get(0)[0]);
            script.get(0)[0] -= used;
            left -= used;
            if (script.get(0)[0] == 0) {
                script.remove(0);
            }
        }
        now += seconds;
        return now;
    }

    public int time() {
        return now;
    }

    public long trueRange() {
        return truth.longValueExact();
    }

    public int trueRate() {
        return rate;
    }

    public long trueRangeIn(int seconds) {
        argument(within(seconds, 0, 1000));
        return ranges(seconds).get(seconds).longValueExact();
    }

    public int closestApproach(int seconds) {
        argument(within(seconds, 0, 1000));
        List<BigInteger> all = ranges(seconds);
        return all.indexOf(java.util.Collections.min(all));
    }

    public long setDelay(int which, long delay) {
        argument(within(which, 0, 9) && within(delay, 0, 1000000000L));
        long before = delays[which];
        delays[which] = delay;
        return before;
    }

    public int setStation(int which) {
        argument(within(which, 0, 9));
        state(!running);
        int before = station;
        station = which;
        return before;
    }

    public int addTone(long wavelength) {
        argument(within(wavelength, 1000, 1000000000000L));
        argument(tones.isEmpty() || wavelength < tones.get(tones.size() - 1));
        state(tones.size() < 6 && !running);
        tones.add(wavelength);
        return tones.size();
    }

    public int removeTone() {
        state(!tones.isEmpty() && !running);
        tones.remove(tones.size() - 1);
        return tones.size();
    }

    public int toneCount() {
        return tones.size();
    }

    public long wavelength(int tone) {
        index(within(tone, 0, tones.size() - 1));
        return tones.get(tone);
    }

    public int setNoise(int amplitude) {
        argument(within(amplitude, 0, 30000));
        int before = noise;
        noise = amplitude;
        return before;
    }

    public int setSeed(int newSeed) {
        int before = seed;
        seed = newSeed;
        return before;
    }

    public int setDopplerWavelength(int wavelength) {
        argument(within(wavelength, 1, 10000));
        state(!running);
        int before = w;
        w = wavelength;
        return before;
    }

    private long draw() {
        if (noise == 0) {
            return 0;
        }
        seed = big(seed).multiply(big(1103515245L)).add(big(12345)).intValue();
        long unsigned = seed & 0xffffffffL;
        return unsigned / 65536 % (2 * noise + 1) - noise;
    }

    private List<Integer> measure(BigInteger range) {
        List<Integer> phases = new ArrayList<>();
        for (long tone : tones) {
            BigInteger r = range.add(big(delays[station])).add(big(draw()));
            phases.add(r.mod(big(tone)).multiply(big(1000)).divide(big(tone)).intValueExact());
        }
        return phases;
    }

    private static BigInteger resolve(List<Integer> phases, List<Long> tones, int tone) {
        BigInteger length = big(tones.get(tone));
        BigInteger f = big(phases.get(tone)).multiply(length).divide(big(1000));
        if (tone == 0) {
            return f;
        }
        BigInteger before = resolve(phases, tones, tone - 1);
        return f.add(nearest(length, before.subtract(f)).multiply(length));
    }

    public long calibrate(int samples) {
        argument(within(samples, 1, 20));
        state(!tones.isEmpty() && !running);
        BigInteger sum = BigInteger.ZERO;
        for (int i = 0; i < samples; i++) {
            sum = sum.add(resolve(measure(BigInteger.ZERO), tones, tones.size() - 1));
        }
        estimates[station] = floor(sum, big(samples));
        order.add(station);
        return estimates[station].longValueExact();
    }

    public long delayEstimate(int which) {
        argument(within(which, 0, 9));
        element(estimates[which] != null);
        return estimates[which].longValueExact();
    }

    public int calibratedStation(int k) {
        index(within(k, 0, order.size() - 1));
        return new ArrayList<>(order).get(k);
    }

    public int beginPass() {
        state(!running && !tones.isEmpty() && spans.size() < 20);
        Span span = new Span();
        span.station = station;
        span.tones = new ArrayList<>(tones);
        span.w = w;
        span.base = floor(truth, big(w));
        spans.add(span);
        running = true;
        return spans.size() - 1;
    }

    private List<Integer> members(int pass) {
        List<Integer> all = new ArrayList<>();
        for (int i = 0; i < seen.size(); i++) {
            if (seen.get(i).pass == pass) {
                all.add(i);
            }
        }
        return all;
    }

    public int endPass() {
        state(running);
        running = false;
        return members(spans.size() - 1).size();
    }

    public int observe() {
        state(running && seen.size() < 100);
        Span span = spans.get(spans.size() - 1);
        Seen one = new Seen();
        one.pass = spans.size() - 1;
        one.time = now;
        one.count = floor(truth, big(span.w)).subtract(span.base).add(span.slips);
        one.phases = measure(truth);
        seen.add(one);
        return seen.size() - 1;
    }

    public long addSlip(int cycles) {
        argument(within(cycles, -1000, 1000));
        state(running);
        Span span = spans.get(spans.size() - 1);
        span.slips = span.slips.add(big(cycles));
        return span.slips.longValueExact();
    }

    boolean isRunning() {
        return running;
    }

    int seenInAll() {
        return seen.size();
    }

    public int passCount() {
        return spans.size();
    }

    private Span span(int pass) {
        index(within(pass, 0, spans.size() - 1));
        return spans.get(pass);
    }

    private Seen one(int observation) {
        index(within(observation, 0, seen.size() - 1));
        return seen.get(observation);
    }

    private Seen one(int observation, int tone) {
        Seen found = one(observation);
        index(within(tone, 0, found.phases.size() - 1));
        return found;
    }

    public int observations(int pass) {
        span(pass);
        return members(pass).size();
    }

    public int observationTime(int observation) {
        return one(observation).time;
    }

    public int observationPass(int observation) {
        return one(observation).pass;
    }

    public int phase(int observation, int tone) {
        return one(observation, tone).phases.get(tone);
    }

    public long dopplerCount(int observation) {
        return one(observation).count.longValueExact();
    }

    public int distinctTimes() {
        TreeSet<Integer> times = new TreeSet<>();
        for (Seen one : seen) {
            times.add(one.time);
        }
        return times.size();
    }

    public long setAPriori(long range) {
        argument(within(range, 0, 10000000000000L));
        BigInteger before = prior;
        prior = big(range);
        return before.longValueExact();
    }

    private BigInteger rangeOf(int observation, int tone, BigInteger ambiguity) {
        Seen one = seen.get(observation);
        Span span = spans.get(one.pass);
        BigInteger delay = estimates[span.station] == null ? BigInteger.ZERO : estimates[span.station];
        BigInteger x = resolve(one.phases, span.tones, tone).subtract(delay);
        BigInteger longest = big(span.tones.get(0));
        return x.add(nearest(longest, prior.subtract(x)).add(ambiguity).multiply(longest));
    }

    private BigInteger rangeOf(int observation) {
        Span span = spans.get(seen.get(observation).pass);
        return rangeOf(observation, span.tones.size() - 1, span.ambiguity);
    }

    public long rangeAfter(int observation, int tone) {
        Span span = spans.get(one(observation, tone).pass);
        return rangeOf(observation, tone, span.ambiguity).longValueExact();
    }

    public long range(int observation) {
        one(observation);
        return rangeOf(observation).longValueExact();
    }

    public long correction(int observation, int tone) {
        Seen one = one(observation, tone);
        List<Long> lengths = spans.get(one.pass).tones;
        return tone == 0 ? 0 : resolve(one.phases, lengths, tone)
            .subtract(resolve(one.phases, lengths, tone - 1)).longValueExact();
    }

    public boolean isWeak(int observation, int tone) {
        Seen one = one(observation, tone);
        return tone > 0 && 4 * Math.abs(correction(observation, tone)) > spans.get(one.pass).tones.get(tone);
    }

    public int weakIn(int pass, int tone) {
        index(within(tone, 0, span(pass).tones.size() - 1));
        int weak = 0;
        for (int i : members(pass)) {
            weak += isWeak(i, tone) ? 1 : 0;
        }
        return weak;
    }

    private BigInteger carried(int observation, BigInteger from) {
        BigInteger change = seen.get(observation).count.subtract(seen.get(observation - 1).count);
        return from.add(change.multiply(big(spans.get(seen.get(observation).pass).w)));
    }

    public long predicted(int observation) {
        Seen one = one(observation);
        element(observation > 0 && seen.get(observation - 1).pass == one.pass);
        return carried(observation, rangeOf(observation - 1)).longValueExact();
    }

    public long innovation(int observation) {
        return rangeAfterPrediction(observation, predicted(observation));
    }

    private long rangeAfterPrediction(int observation, long prediction) {
        return rangeOf(observation).subtract(big(prediction)).longValueExact();
    }

    public long setSlipThreshold(long newThreshold) {
        argument(within(newThreshold, 0, 1000000000L));
        long before = threshold;
        threshold = newThreshold;
        return before;
    }

    private List<Long> innovations(int pass) {
        span(pass);
        List<Long> all = new ArrayList<>();
        List<Integer> members = members(pass);
        for (int i = 1; i < members.size(); i++) {
            all.add(innovation(members.get(i)));
        }
        return all;
    }

    public int slips(int pass) {
        int found = 0;
        for (long innovation : innovations(pass)) {
            found += innovation > threshold || -innovation > threshold ? 1 : 0;
        }
        return found;
    }

    public double meanInnovation(int pass) {
        List<Long> all = innovations(pass);
        element(!all.isEmpty());
        double sum = 0.0;
        for (long innovation : all) {
            sum = sum + innovation;
        }
        return sum / all.size();
    }

    public double varianceInnovation(int pass) {
        double mean = meanInnovation(pass);
        double sum = 0.0;
        for (long innovation : innovations(pass)) {
            sum = sum + (innovation - mean) * (innovation - mean);
        }
        return sum / innovations(pass).size();
    }

    public int setWindow(int newWindow) {
        argument(within(newWindow, 1, 50));
        int before = window;
        window = newWindow;
        return before;
    }

    private BigInteger smooth(int observation) {
        List<Integer> members = members(seen.get(observation).pass);
        BigInteger q = rangeOf(members.get(0));
        for (int i = 1; i <= members.indexOf(observation); i++) {
            int member = members.get(i);
            BigInteger n = big(i + 1).min(big(window));
            q = carried(member, q).multiply(n.subtract(BigInteger.ONE));
            q = floor(rangeOf(member).add(q), n);
        }
        return q;
    }

    public long smoothed(int observation) {
        one(observation);
        return smooth(observation).longValueExact();
    }

    private int timesIn(int pass) {
        TreeSet<Integer> times = new TreeSet<>();
        for (int i : members(pass)) {
            times.add(seen.get(i).time);
        }
        return times.size();
    }

    private double t(int observation) {
        int first = members(seen.get(observation).pass).get(0);
        return seen.get(observation).time - seen.get(first).time;
    }

    private double y(int observation) {
        int first = members(seen.get(observation).pass).get(0);
        return rangeOf(observation).subtract(rangeOf(first)).longValueExact();
    }

    private double[] line(int pass) {
        span(pass);
        if (timesIn(pass) < 2) {
            throw new ArithmeticException();
        }
        double n = members(pass).size();
        double[] s = new double[4];
        for (int i : members(pass)) {
            s[0] += t(i);
            s[1] += y(i);
            s[2] += t(i) * t(i);
            s[3] += t(i) * y(i);
        }
        double slope = (n * s[3] - s[0] * s[1]) / (n * s[2] - s[0] * s[0]);
        return new double[] {slope, (s[1] - slope * s[0]) / n};
    }

    public double lineRate(int pass) {
        return line(pass)[0];
    }

    public double lineOffset(int pass) {
        return line(pass)[1];
    }

    public double residual(int observation) {
        double[] line = line(one(observation).pass);
        return y(observation) - (line[1] + line[0] * t(observation));
    }

    public long join(int pass) {
        Span span = span(pass);
        index(pass > 0);
        state(!members(pass).isEmpty() && timesIn(pass - 1) >= 2);
        List<Integer> before = members(pass - 1);
        Seen a = seen.get(before.get(0));
        Seen b = seen.get(before.get(before.size() - 1));
        int c = members(pass).get(0);
        BigInteger moved = b.count.subtract(a.count).multiply(big(spans.get(pass - 1).w));
        BigInteger doppler = floor(moved, big(b.time - a.time));
        BigInteger expected = smooth(before.get(before.size() - 1)).add(doppler.multiply(big(seen.get(c).time - b.time)));
        BigInteger z = rangeOf(c, span.tones.size() - 1, BigInteger.ZERO);
        span.ambiguity = nearest(big(span.tones.get(0)), expected.subtract(z));
        span.joined = true;
        return span.ambiguity.longValueExact();
    }

    public long ambiguity(int pass) {
        return span(pass).ambiguity.longValueExact();
    }

    public int longestChain() {
        int longest = 0;
        for (int from = 0; from < spans.size(); from++) {
            int to = from + 1;
            while (to < spans.size() && spans.get(to).joined) {
                to++;
            }
            longest = Math.max(longest, to - from);
        }
        return longest;
    }
}
