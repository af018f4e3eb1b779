import java.lang.reflect.Method;
import java.util.ArrayList;
import java.util.Collections;
import java.util.List;
import java.util.Random;

/**
 * Runs of 512 calls with arguments drawn from fixed seeds, each answer compared with that of Model: first calls of all
 * kinds, so many as are drawn, then as many as are left of those that ask for all that is there and one more at either
 * end, in a drawn order.
 */
final class RandomRunsTest {
    private static final int RUNS = 1500;
    private static final int CALLS = 512;
    private static final long[] EDGES = {
        0, 1, -1, 2, 9, 10, 50, 51, 100, 999, 1000, 1001, -1000, -1001, 10000, 10001, -10000, -10001, 30000, 30001,
        10000000, 10000001, -10000000, -10000001, 1000000000L, 1000000001L, 1000000000000L, 1000000000001L,
        10000000000000L, 10000000000001L, Integer.MAX_VALUE, Integer.MIN_VALUE, Long.MAX_VALUE, Long.MIN_VALUE};

    private final Random random;
    private final RangingStation station = new RangingStation();
    private final Model model = new Model();
    private final StringBuilder told = new StringBuilder();
    private boolean right = true;

    private RandomRunsTest(long seed) {
        random = new Random(seed);
    }

    public static void main(String[] args) {
        for (int i = 0; i < RUNS; i++) {
            RandomRunsTest run = new RandomRunsTest(i);
            run.play();
            Check.note(run.right, "run " + i, run.told.toString(), "the answer of Model");
        }
        Check.finish("RandomRunsTest");
    }

    private void play() {
        int changing = 50 + random.nextInt(CALLS - 100);
        call("addTone " + (random.nextBoolean() ? 1000000 : tone()));
        for (int i = 1; i < changing && right; i++) {
            Method method = pick(Calls.face());
            call(method.getName() + arguments(method));
        }
        List<String> asked = all();
        Collections.shuffle(asked, random);
        for (int i = changing; i < CALLS && i - changing < asked.size() && right; i++) {
            call(asked.get(i - changing));
        }
    }

    private Method pick(List<Method> face) {
        String[] often = {"observe", "observe", "observe", "observe", "run", "run", "run", "addSlip", "join"};
        String[] between = {"beginPass", "beginPass", "run", "addTone", "addTone", "setDopplerWavelength", "calibrate",
            "setStation", "setTruth"};
        int kind = random.nextInt(4);
        if (kind == 0) {
            Method any = face.get(random.nextInt(face.size()));
            boolean rare = any.getName().equals("removeTone") || any.getName().equals("clearScript");
            return rare && random.nextInt(3) > 0 ? Calls.named(RangingStation.class, "addSegment") : any;
        }
        if (kind == 1 && random.nextInt(4) == 0) {
            return Calls.named(RangingStation.class, "endPass");
        }
        String[] names = model.isRunning() ? often : between;
        return Calls.named(RangingStation.class, names[random.nextInt(names.length)]);
    }

    private long tone() {
        return (long) Math.pow(10, 3 + random.nextInt(10)) - (random.nextBoolean() ? random.nextInt(300) : 0);
    }

    private String arguments(Method method) {
        StringBuilder told = new StringBuilder();
        Class<?>[] types = method.getParameterTypes();
        for (int i = 0; i < types.length; i++) {
            long value = random.nextInt(12) == 0 ? EDGES[random.nextInt(EDGES.length)] : ordinary(method.getName(), i);
            told.append(' ').append(types[i] == int.class ? (int) value : value);
        }
        return told.toString();
    }

    private long ordinary(String name, int place) {
        switch (name) {
            case "setTruth":
                return place == 0 ? (long) (random.nextDouble() * 1e13) : random.nextInt(20000001) - 10000000;
            case "addSegment":
                return place == 0 ? 1 + random.nextInt(30) : random.nextInt(20001) - 10000;
            case "run":
                return 1 + random.nextInt(random.nextInt(10) == 0 ? 1000 : 20);
            case "trueRangeIn":
            case "closestApproach":
                return random.nextInt(200);
            case "setDelay":
                return place == 0 ? random.nextInt(10) : random.nextInt(1000000001);
            case "addTone":
                return tone();
            case "setNoise":
                return random.nextInt(random.nextBoolean() ? 300 : 30001);
            case "setSeed":
                return random.nextInt();
            case "setDopplerWavelength":
                return 1 + random.nextInt(random.nextBoolean() ? 200 : 10000);
            case "calibrate":
                return 1 + random.nextInt(20);
            case "addSlip":
                return random.nextInt(2001) - 1000;
            case "setAPriori":
                return (long) (random.nextDouble() * 1e13);
            case "setSlipThreshold":
                return random.nextInt(100000);
            case "setWindow":
                return 1 + random.nextInt(50);
            default:
                return random.nextInt(place == 0 ? 1 + 2 * Math.max(1, model.passCount()) : 4);
        }
    }

    private void call(String call) {
        String got = Calls.told(station, call);
        String due = Calls.told(model, call);
        if (right && !got.equals(due)) {
            right = false;
            told.append(call).append(" answered ").append(got).append(", Model ").append(due);
        }
    }

    private List<String> all() {
        List<String> all = new ArrayList<>(List.of("time", "trueRange", "trueRate", "toneCount", "passCount",
            "distinctTimes", "longestChain", "trueRangeIn 50", "trueRangeIn 1000", "closestApproach 1000"));
        for (int i = -1; i <= 10; i++) {
            addAll(all, " " + i, "wavelength", "delayEstimate", "calibratedStation");
        }
        for (int p = -1; p <= model.passCount(); p++) {
            addAll(all, " " + p, "observations", "slips", "meanInnovation", "varianceInnovation", "lineRate", "lineOffset",
                "ambiguity", "weakIn");
        }
        for (int o = -1; o <= model.seenInAll(); o++) {
            addAll(all, " " + o, "observationTime", "observationPass", "dopplerCount", "range", "predicted", "innovation",
                "smoothed", "residual", "phase", "rangeAfter", "correction", "isWeak");
        }
        return all;
    }

    /** A method that takes a tone too is given one of 0 to 6. */
    private void addAll(List<String> all, String index, String... names) {
        for (String name : names) {
            boolean takesTone = Calls.named(RangingStation.class, name).getParameterCount() == 2;
            all.add(name + index + (takesTone ? " " + (random.nextInt(8) - 1) : ""));
        }
    }
}
