import java.lang.reflect.Method;
import java.util.ArrayList;
import java.util.List;

/**
 * Every method with every edge for its arguments, in every state of a list, against Model: the answer or the
 * exception, and what both tell of themselves afterwards.
 */
final class EdgesAgainstModelTest {
    private static final String[][] STATES = {States.NEW, States.BUSY, States.RUNNING, States.RUNNING_EMPTY,
        States.SIX_TONES, States.FULL_SCRIPT, States.TWENTY_PASSES, States.HUNDRED_OBSERVATIONS,
        States.plus(States.BUSY, "removeTone", "removeTone", "removeTone"),
        States.plus(States.TWENTY_PASSES, "join 1", "join 2", "join 3", "join 7", "removeTone"),
        States.plus(States.SIX_TONES, "setTruth 12345 -6789", "setNoise 500", "beginPass", "3*(observe; run 1)")};
    private static final long[] EDGES = {Long.MIN_VALUE, Integer.MIN_VALUE, -10000001, -10000000, -10001, -10000, -1001,
        -1000, -1, 0, 1, 2, 3, 4, 5, 6, 7, 9, 10, 19, 20, 21, 50, 51, 99, 100, 999, 1000, 1001, 1002, 9999, 10000, 10001,
        30000, 30001, 10000000, 10000001, 1000000000L, 1000000001L, Integer.MAX_VALUE, 1000000000000L, 1000000000001L,
        10000000000000L, 10000000000001L, Long.MAX_VALUE};
    private static final long[] BOTH = {-1, 0, 2, 1000, 10001};
    private static final int QUIET_CALLS = 100;

    private final String[] state;
    private RangingStation station;
    private Model model;
    private int quiet;

    private EdgesAgainstModelTest(String[] state) {
        this.state = state;
    }

    public static void main(String[] args) {
        for (String[] state : STATES) {
            new EdgesAgainstModelTest(state).callAll();
        }
        Check.finish("EdgesAgainstModelTest");
    }

    private void callAll() {
        begin();
        for (Method method : Calls.face()) {
            for (String call : callsOf(method)) {
                call(call);
            }
        }
        compareTraces("the last calls");
    }

    private static List<String> callsOf(Method method) {
        Class<?>[] types = method.getParameterTypes();
        List<String> calls = new ArrayList<>();
        if (types.length == 0) {
            calls.add(method.getName());
        } else if (types.length == 1) {
            for (long edge : EDGES) {
                addIfFitting(calls, types, method.getName(), edge);
            }
        } else {
            for (long edge : EDGES) {
                addIfFitting(calls, types, method.getName(), edge, 1);
                addIfFitting(calls, types, method.getName(), 1, edge);
            }
            for (long first : BOTH) {
                for (long second : BOTH) {
                    addIfFitting(calls, types, method.getName(), first, second);
                }
            }
        }
        return calls;
    }

    private static void addIfFitting(List<String> calls, Class<?>[] types, String name, long... values) {
        StringBuilder call = new StringBuilder(name);
        for (int i = 0; i < values.length; i++) {
            if (types[i] == int.class && values[i] != (int) values[i]) {
                return;
            }
            call.append(' ').append(values[i]);
        }
        calls.add(call.toString());
    }

    private void begin() {
        station = new RangingStation();
        model = new Model();
        quiet = 0;
        for (String call : Rows.expanded(state)) {
            same(call);
        }
    }

    private void call(String call) {
        boolean refused = same(call).startsWith("throws");
        quiet++;
        if (!refused || quiet == QUIET_CALLS) {
            compareTraces(call);
            begin();
        }
    }

    private String same(String call) {
        String got = Calls.told(station, call);
        String due = Calls.told(model, call);
        Check.note(got.equals(due), String.join("; ", state) + ": " + call, got, due);
        return due;
    }

    private void compareTraces(String call) {
        List<String> got = Trace.of(station);
        List<String> due = Trace.of(model);
        Check.note(got.equals(due), String.join("; ", state) + ": after " + call, got.toString(), due.toString());
    }
}
