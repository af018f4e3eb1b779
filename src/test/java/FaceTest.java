import java.lang.reflect.Constructor;
import java.lang.reflect.Method;
import java.lang.reflect.Modifier;
import java.nio.file.Files;
import java.nio.file.Path;
import java.util.ArrayList;
import java.util.Arrays;
import java.util.Collections;
import java.util.List;
import java.util.TreeSet;

/** The public face of the class against the code block of the document, and rule 1 of LANGUAGE.md. */
final class FaceTest {
    public static void main(String[] args) throws Exception {
        TreeSet<String> due = documented(Files.readAllLines(Path.of(args[1], "DOC.md")));
        TreeSet<String> got = visible();
        Check.eq("methods and constructors in the document", due.size(), 53);
        for (String member : due) {
            Check.yes("there is " + member, got.contains(member));
        }
        for (String member : got) {
            Check.yes("the document has " + member, due.contains(member));
        }
        Check.eq("the class is public and final", RangingStation.class.getModifiers(), Modifier.PUBLIC | Modifier.FINAL);
        Arrays.stream(RangingStation.class.getDeclaredFields())
            .forEach(f -> Check.yes("private field " + f.getName(), Modifier.isPrivate(f.getModifiers())));
        for (Class<?> inside : RangingStation.class.getDeclaredClasses()) {
            Check.yes("static " + inside, Modifier.isStatic(inside.getModifiers()));
            Check.no("public " + inside, Modifier.isPublic(inside.getModifiers()));
        }
        Check.finish("FaceTest");
    }

    private static TreeSet<String> documented(List<String> lines) {
        TreeSet<String> members = new TreeSet<>();
        for (String line : lines) {
            if (line.startsWith("    public ") && line.endsWith(";")) {
                String plain = line.trim().replace("public ", "").replace(";", "");
                members.add(plain.replaceAll("(int|long) [a-zA-Z]+([,)])", "$1$2"));
            }
        }
        return members;
    }

    private static TreeSet<String> visible() {
        TreeSet<String> members = new TreeSet<>();
        for (Constructor<?> made : RangingStation.class.getDeclaredConstructors()) {
            if (!Modifier.isPrivate(made.getModifiers())) {
                members.add("RangingStation" + types(made.getParameterTypes()) + thrown(made.getExceptionTypes()));
            }
        }
        for (Method method : RangingStation.class.getDeclaredMethods()) {
            if (!Modifier.isPrivate(method.getModifiers())) {
                members.add(method.getReturnType().getSimpleName() + " " + method.getName()
                    + types(method.getParameterTypes()) + thrown(method.getExceptionTypes()));
            }
        }
        return members;
    }

    private static String types(Class<?>[] types) {
        return "(" + names(types) + ")";
    }

    private static String thrown(Class<?>[] types) {
        return types.length == 0 ? "" : " throws " + names(types);
    }

    private static String names(Class<?>[] types) {
        List<String> names = new ArrayList<>();
        for (Class<?> type : types) {
            names.add(type.getSimpleName());
        }
        return String.join(", ", names.isEmpty() ? Collections.emptyList() : names);
    }
}
