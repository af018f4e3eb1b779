import java.lang.reflect.Method;
import java.util.HashSet;
import java.util.List;
import java.util.Random;
import java.util.Set;

/**
 * Rules 3 and 7 of LANGUAGE.md, in any state: runs of drawn calls, far beyond the 512 of which the document tells the
 * answers, in which a call throws nothing but what its signature names, and answers no NaN.
 */
final class LongRunsTest {
    private static final int RUNS = 40;
    private static final int CALLS = 20000;
    private static final long[] EDGES = {Long.MIN_VALUE, Integer.MIN_VALUE, -10000000, -10000, -1000, -1, 0, 1, 10, 20, 50,
        100, 999, 1000, 10000, 30000, 1000000, 10000000, 1000000000L, Integer.MAX_VALUE, 1000000000000L, 10000000000000L,
        Long.MAX_VALUE};
    private static final List<String> OFTEN = List.of("addTone", "beginPass", "observe", "run", "run", "addSlip", "addSlip",
        "join");
    private static final List<String> SELDOM = List.of("endPass", "removeTone", "clearScript");

    private final Random random;
    private final RangingStation station = new RangingStation();

    private LongRunsTest(long seed) {
        random = new Random(seed);
    }

    public static void main(String[] args) {
        for (int i = 0; i < RUNS; i++) {
            LongRunsTest run = new LongRunsTest(i);
            for (int call = 0; call < CALLS; call++) {
                run.call("run " + i);
            }
        }
        Check.finish("LongRunsTest");
    }

    private void call(String what) {
        Method method = drawnMethod();
        Class<?>[] types = method.getParameterTypes();
        StringBuilder told = new StringBuilder(method.getName());
        for (Class<?> type : types) {
            long value = drawnValue();
            told.append(' ').append(type == int.class ? (int) value : value);
        }
        String got = Calls.told(station, told.toString());
        boolean right = got.startsWith("throws ") ? named(method).contains(got) : !got.equals("NaN");
        Check.note(right, what + ": " + told, got, "an answer or one of " + named(method));
    }

    private Method drawnMethod() {
        if (random.nextInt(3) == 0) {
            return Calls.named(RangingStation.class, OFTEN.get(random.nextInt(OFTEN.size())));
        }
        Method any = Calls.face().get(random.nextInt(Calls.face().size()));
        boolean left = SELDOM.contains(any.getName()) && random.nextInt(4) > 0;
        return left ? Calls.named(RangingStation.class, "observe") : any;
    }

    private long drawnValue() {
        switch (random.nextInt(4)) {
            case 0:
                return EDGES[random.nextInt(EDGES.length)];
            case 1:
                return random.nextInt(101);
            case 2:
                return random.nextInt(6);
            default:
                return random.nextInt(20000001) - 10000000;
        }
    }

    private static Set<String> named(Method method) {
        Set<String> named = new HashSet<>();
        for (Class<?> type : method.getExceptionTypes()) {
            named.add("throws " + type.getName());
        }
        return named;
    }
}
