import java.nio.file.Files;
import java.nio.file.Path;
import java.util.ArrayList;
import java.util.HashMap;
import java.util.HashSet;
import java.util.List;
import java.util.Map;
import java.util.Set;
import java.util.regex.Matcher;
import java.util.regex.Pattern;

/**
 * Rules 8, 11 and 12 of LANGUAGE.md, read off the source: that no method comes back to itself, that calls go at most
 * eight deep, and how many objects and arrays a call makes. Methods of one name are taken as one.
 */
final class CallGraphTest {
    private static final int DEEPEST = 8;
    private static final int MOST_OBJECTS = 4;
    private static final Pattern HEAD = Pattern.compile("( {4}| {8})(?:[\\w\\[\\]]+ )*(\\w+)\\([^;]*\\{");
    private static final Pattern CALL = Pattern.compile("(\\w+)\\(");
    private static final Pattern MADE = Pattern.compile("(?<!throw )new \\w+[(\\[]|Arrays\\.copyOf\\(");

    private final Map<String, List<String>> bodies = new HashMap<>();

    public static void main(String[] args) throws Exception {
        String text = Files.readString(Path.of(args[0]));
        new CallGraphTest().look(text.replaceAll("(?s)/\\*.*?\\*/", "").replaceAll("//[^\n]*", "").split("\n"));
        Check.finish("CallGraphTest");
    }

    private void look(String[] lines) {
        readBodies(lines);
        Check.yes("methods were found", bodies.size() > 80);
        for (String name : bodies.keySet()) {
            int depth = depth(name, new HashSet<>());
            Check.yes("rule 8: " + name + " does not come back to itself", depth < 1000);
            Check.yes("rule 11: the calls of " + name + " go " + depth + " deep", depth <= DEEPEST);
            int objects = depth < 1000 ? objects(bodies.get(name)) : 0;
            Check.yes("rule 12: " + name + " makes " + objects + " objects",
                objects <= MOST_OBJECTS || name.equals("RangingStation"));
            Check.yes("rule 12: " + name + " makes none in a loop",
                objects(inLoops(bodies.get(name))) == 0 || name.equals("RangingStation"));
        }
    }

    private void readBodies(String[] lines) {
        for (int i = 0; i < lines.length; i++) {
            Matcher head = HEAD.matcher(lines[i]);
            if (head.matches() && !head.group(2).matches("if|for|while|switch")) {
                List<String> body = bodies.computeIfAbsent(head.group(2), name -> new ArrayList<>());
                for (int j = i + 1; !lines[j].equals(head.group(1) + "}"); j++) {
                    body.add(lines[j]);
                }
            }
        }
    }

    private Set<String> calledBy(List<String> body) {
        Set<String> called = new HashSet<>();
        Matcher call = CALL.matcher(String.join("\n", body));
        while (call.find()) {
            if (bodies.containsKey(call.group(1))) {
                called.add(call.group(1));
            }
        }
        return called;
    }

    /** The method itself counts as one; 1000 and more if it comes back to one that is open. */
    private int depth(String name, Set<String> open) {
        if (open.contains(name)) {
            return 1000;
        }
        open.add(name);
        int deepest = 0;
        for (String called : calledBy(bodies.get(name))) {
            deepest = Math.max(deepest, depth(called, open));
        }
        open.remove(name);
        return deepest + 1;
    }

    /** What the lines make, each call counted as often as it stands there. */
    private int objects(List<String> lines) {
        String text = String.join("\n", lines);
        int made = 0;
        Matcher one = MADE.matcher(text);
        while (one.find()) {
            made++;
        }
        Matcher call = CALL.matcher(text);
        while (call.find()) {
            if (bodies.containsKey(call.group(1))) {
                made += objects(bodies.get(call.group(1)));
            }
        }
        return made;
    }

    private static List<String> inLoops(List<String> body) {
        List<String> inside = new ArrayList<>();
        String end = null;
        for (String line : body) {
            if (end == null && line.trim().matches("(for|while|do)\\b.*")) {
                end = line.replaceAll("\\S.*", "") + "}";
            }
            if (end != null) {
                inside.add(line);
                end = line.equals(end) ? null : end;
            }
        }
        return inside;
    }
}
