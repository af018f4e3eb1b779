import java.util.ArrayList;
import java.util.List;

/**
 * A run of calls on a new object, told in rows:
 * "run 5 = 5" is a call and the answer that is due,
 * "run 0 ! IllegalArgumentException" a call and the exception that is due,
 * "run 5" a call whose answer is not looked at, but which must not throw,
 * "3*(observe; run 1)" stands for its rows, so many times.
 * Every call that is refused must leave no trace.
 */
final class Rows {
    private static final int MOST_CALLS = 512;
    /** A trace takes some 200 of the calls that an object has. */
    private static final int MOST_BEFORE_A_TRACE = 300;

    private Rows() {
    }

    static void play(String what, String... rows) {
        List<String> calls = new ArrayList<>();
        RangingStation x = new RangingStation();
        List<String> all = expanded(rows);
        Check.yes(what + ": no more than 512 calls", all.size() <= MOST_CALLS);
        for (String row : all) {
            String call = row.split(" [=!] ")[0];
            String got = Calls.told(x, call);
            String due = due(row);
            boolean right = due == null ? !got.startsWith("throws") : got.equals(due);
            Check.note(right, what + ": " + call, got, due == null ? "an answer" : due);
            if (row.contains(" ! ")) {
                leavesNoTrace(what, calls, call);
            } else {
                calls.add(call);
            }
        }
    }

    /** Null if any answer is right. */
    private static String due(String row) {
        if (row.contains(" ! ")) {
            String name = row.split(" ! ")[1];
            return "throws java." + (name.equals("NoSuchElementException") ? "util." : "lang.") + name;
        }
        return row.contains(" = ") ? row.split(" = ")[1] : null;
    }

    static List<String> expanded(String... rows) {
        List<String> all = new ArrayList<>();
        for (String row : rows) {
            if (row.matches("\\d+\\*\\(.*\\)")) {
                String[] parts = row.substring(row.indexOf('(') + 1, row.length() - 1).split("; ");
                for (int i = 0; i < Integer.parseInt(row.substring(0, row.indexOf('*'))); i++) {
                    all.addAll(List.of(parts));
                }
            } else {
                all.add(row);
            }
        }
        return all;
    }

    private static void leavesNoTrace(String what, List<String> calls, String refused) {
        Check.yes(what + ": room for a trace", calls.size() <= MOST_BEFORE_A_TRACE);
        RangingStation x = after(calls);
        Calls.told(x, refused);
        List<String> with = Trace.of(x);
        List<String> without = Trace.of(after(calls));
        for (int i = 0; i < Math.min(with.size(), without.size()); i++) {
            Check.note(with.get(i).equals(without.get(i)), what + ": after the refused " + refused,
                with.get(i), without.get(i));
        }
        Check.eq(what + ": what is told after the refused " + refused, with.size(), without.size());
    }

    private static RangingStation after(List<String> calls) {
        RangingStation x = new RangingStation();
        for (String call : calls) {
            Calls.told(x, call);
        }
        return x;
    }
}
