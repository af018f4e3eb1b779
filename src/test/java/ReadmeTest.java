import java.io.IOException;
import java.lang.reflect.Method;
import java.nio.file.Files;
import java.nio.file.Path;
import java.util.List;
import java.util.TreeSet;
import java.util.regex.Matcher;
import java.util.regex.Pattern;
import java.util.stream.Stream;

/** What README.md says of the class and of its tests, against both; the folder is that of the project. */
final class ReadmeTest {
    private static final Pattern CALL = Pattern.compile("x\\.(\\w+)\\(([^)]*)\\); +// (.*)");

    public static void main(String[] args) throws IOException {
        List<String> lines = Files.readAllLines(Path.of("README.md"));
        example(lines);
        methods(lines);
        tests(lines);
        Check.yes("there is .ci/run", Files.isExecutable(Path.of(".ci", "run")));
        Check.finish("ReadmeTest");
    }

    /** Behind a call stands its answer, or what it throws; of a void method something else. */
    private static void example(List<String> lines) {
        RangingStation x = new RangingStation();
        int calls = 0;
        for (String line : lines.subList(lines.indexOf("```java") + 2, lines.lastIndexOf("```"))) {
            Matcher call = CALL.matcher(line);
            Check.yes("a call: " + line, call.matches());
            String told = (call.group(1) + " " + call.group(2).replace(",", "").replace("L", "")).trim();
            String got = Calls.told(x, told).replaceFirst("throws java\\.(util|lang)\\.", "throws ");
            String due = got.equals("nothing") ? got : call.group(3).split(":")[0];
            Check.note(got.equals(due), "README: " + told, got, due);
            calls++;
        }
        Check.yes("calls in the example", calls > 20);
    }

    private static void methods(List<String> lines) {
        TreeSet<String> named = new TreeSet<>();
        for (String line : lines) {
            Matcher row = Pattern.compile("\\| [a-zA-Z ]+: (.*) \\| \\d+ to \\d+ \\|").matcher(line);
            if (row.matches()) {
                named.addAll(List.of(row.group(1).split(", ")));
            }
        }
        TreeSet<String> face = new TreeSet<>();
        for (Method method : Calls.face()) {
            face.add(method.getName());
        }
        Check.note(named.equals(face), "the methods that README names", named.toString(), face.toString());
    }

    private static void tests(List<String> lines) throws IOException {
        TreeSet<String> named = new TreeSet<>();
        for (String line : lines) {
            Matcher row = Pattern.compile("\\| ((\\w+Test(, )?)+) \\| .* \\|").matcher(line);
            if (row.matches()) {
                named.addAll(List.of(row.group(1).split(", ")));
            }
        }
        TreeSet<String> there = new TreeSet<>();
        try (Stream<Path> files = Files.list(Path.of("src", "test", "java"))) {
            files.map(file -> file.getFileName().toString()).filter(name -> name.endsWith("Test.java"))
                .forEach(name -> there.add(name.replace(".java", "")));
        }
        Check.note(named.equals(there), "the tests that README names", named.toString(), there.toString());
    }
}
