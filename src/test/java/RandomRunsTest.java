import java.lang.reflect.InvocationTargetException;
import java.lang.reflect.Method;
import java.util.ArrayList;
import java.util.Arrays;
import java.util.Comparator;
import java.util.List;
import java.util.Random;

/**
 * Runs of 512 calls with arguments drawn from a fixed seed, each answer compared with that of Model, and after
 * every call that throws, and now and then besides, all that can be asked of both.
 */
final class RandomRunsTest {
    private static final int RUNS = 120;
    private static final int CALLS = 512;
    private static final long[] EDGES = {
        0, 1, -1, 2, 9, 10, 50, 51, 100, 999, 1000, 1001, -1000, -1001, 10000, 10001, -10000, -10001, 30000, 30001,
        10000000, 10000001, -10000000, -10000001, 1000000000L, 1000000001L, 1000000000000L, 1000000000001L,
        10000000000000L, 10000000000001L, Integer.MAX_VALUE, Integer.MIN_VALUE, Long.MAX_VALUE, Long.MIN_VALUE};

    private final Random random;
    private final RangingStation station = new RangingStation();
    private final Model model = new Model();
    private final StringBuilder told = new StringBuilder();
    private boolean right = true;

    private RandomRunsTest(long seed) {
        random = new Random(seed);
    }

    public static void main(String[] args) throws Exception {
        List<Method> face = new ArrayList<>();
        for (Method method : RangingStation.class.getDeclaredMethods()) {
            if (java.lang.reflect.Modifier.isPublic(method.getModifiers())) {
                face.add(method);
            }
        }
        face.sort(Comparator.comparing(Method::getName));
        for (int i = 0; i < RUNS; i++) {
            RandomRunsTest run = new RandomRunsTest(i);
            run.play(face);
            Check.note(run.right, "run " + i, run.told.toString(), "the answer of Model");
        }
        Check.finish("RandomRunsTest");
    }

    private void play(List<Method> face) throws Exception {
        call(face, "addTone", random.nextBoolean() ? 1000000L : tone());
        for (int i = 1; i < CALLS && right; i++) {
            Method method = pick(face);
            boolean threw = call(face, method.getName(), arguments(method));
            if (threw && i % 4 == 0 || i % 64 == 0) {
                askAll(face);
            }
        }
        if (right) {
            askAll(face);
        }
    }

    private Method pick(List<Method> face) {
        String[] often = {"observe", "observe", "observe", "observe", "run", "run", "run", "addSlip", "join"};
        String[] between = {"beginPass", "beginPass", "run", "addTone", "addTone", "setDopplerWavelength", "calibrate",
            "setStation", "setTruth"};
        int kind = random.nextInt(4);
        if (kind == 0) {
            Method any = face.get(random.nextInt(face.size()));
            boolean rare = any.getName().equals("removeTone") || any.getName().equals("clearScript");
            return rare && random.nextInt(3) > 0 ? named(face, "addSegment") : any;
        }
        if (kind == 1 && random.nextInt(4) == 0) {
            return named(face, "endPass");
        }
        String[] names = model.isRunning() ? often : between;
        return named(face, names[random.nextInt(names.length)]);
    }

    private static Method named(List<Method> face, String name) {
        for (Method method : face) {
            if (method.getName().equals(name)) {
                return method;
            }
        }
        throw new IllegalStateException(name);
    }

    private long tone() {
        return (long) Math.pow(10, 3 + random.nextInt(10)) - (random.nextBoolean() ? random.nextInt(300) : 0);
    }

    private Object[] arguments(Method method) {
        Class<?>[] types = method.getParameterTypes();
        Object[] values = new Object[types.length];
        for (int i = 0; i < types.length; i++) {
            long value = random.nextInt(12) == 0 ? EDGES[random.nextInt(EDGES.length)] : ordinary(method.getName(), i);
            values[i] = types[i] == int.class ? (Object) (int) value : (Object) value;
        }
        return values;
    }

    private long ordinary(String name, int place) {
        switch (name) {
            case "setTruth":
                return place == 0 ? (long) (random.nextDouble() * 1e13) : random.nextInt(20000001) - 10000000;
            case "addSegment":
                return place == 0 ? 1 + random.nextInt(30) : random.nextInt(20001) - 10000;
            case "run":
                return 1 + random.nextInt(random.nextInt(10) == 0 ? 1000 : 20);
            case "trueRangeIn":
            case "closestApproach":
                return random.nextInt(200);
            case "setDelay":
                return place == 0 ? random.nextInt(10) : random.nextInt(1000000001);
            case "addTone":
                return tone();
            case "setNoise":
                return random.nextInt(random.nextBoolean() ? 300 : 30001);
            case "setSeed":
                return random.nextInt();
            case "setDopplerWavelength":
                return 1 + random.nextInt(random.nextBoolean() ? 200 : 10000);
            case "calibrate":
                return 1 + random.nextInt(20);
            case "addSlip":
                return random.nextInt(2001) - 1000;
            case "setAPriori":
                return (long) (random.nextDouble() * 1e13);
            case "setSlipThreshold":
                return random.nextInt(100000);
            case "setWindow":
                return 1 + random.nextInt(50);
            default:
                return random.nextInt(place == 0 ? 1 + 2 * Math.max(1, model.passCount()) : 4);
        }
    }

    private boolean call(List<Method> face, String name, Object... values) throws Exception {
        Method method = named(face, name);
        String got = answer(method, station, values);
        String due = answer(Model.class.getMethod(name, method.getParameterTypes()), model, values);
        if (right && !got.equals(due)) {
            right = false;
            told.append(name).append(Arrays.toString(values)).append(" answered ").append(got);
            told.append(", Model ").append(due);
        }
        return due.startsWith("throws");
    }

    private static String answer(Method method, Object of, Object[] values) throws Exception {
        try {
            return String.valueOf(method.invoke(of, values));
        } catch (InvocationTargetException e) {
            return "throws " + e.getCause().getClass().getName();
        }
    }

    /** Asks each method that changes nothing, for all that is there and one more at either end. */
    private void askAll(List<Method> face) throws Exception {
        for (String name : new String[] {"time", "trueRange", "trueRate", "toneCount", "passCount", "distinctTimes",
            "longestChain"}) {
            call(face, name);
        }
        call(face, "trueRangeIn", 50);
        for (int i = -1; i <= 10; i++) {
            call(face, "wavelength", i);
            call(face, "delayEstimate", i);
            call(face, "calibratedStation", i);
        }
        askPasses(face);
        askObservations(face);
    }

    private void askPasses(List<Method> face) throws Exception {
        for (int p = -1; p <= model.passCount(); p++) {
            for (String name : new String[] {"observations", "slips", "meanInnovation", "varianceInnovation", "lineRate",
                "lineOffset", "ambiguity"}) {
                call(face, name, p);
            }
            for (int k = -1; k <= 6; k++) {
                call(face, "weakIn", p, k);
            }
        }
    }

    private void askObservations(List<Method> face) throws Exception {
        for (int o = -1; o <= model.seenInAll(); o += 1 + random.nextInt(4)) {
            for (String name : new String[] {"observationTime", "observationPass", "dopplerCount", "range", "predicted",
                "innovation", "smoothed", "residual"}) {
                call(face, name, o);
            }
            for (int k = -1; k <= 6; k++) {
                call(face, "phase", o, k);
                call(face, "rangeAfter", o, k);
                call(face, "correction", o, k);
                call(face, "isWeak", o, k);
            }
        }
    }
}
