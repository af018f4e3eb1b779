import java.lang.reflect.Field;
import java.lang.reflect.Method;
import java.lang.reflect.Modifier;
import java.nio.file.Files;
import java.nio.file.Path;
import java.util.ArrayList;
import java.util.Arrays;
import java.util.List;
import java.util.Set;
import java.util.TreeSet;
import java.util.regex.Matcher;
import java.util.regex.Pattern;

/** What of the rules of LANGUAGE.md can be seen from the source and from the compiled class. */
final class LanguageTest {
    private static final Set<String> IMPORTS = Set.of(
        "import java.util.Arrays;", "import java.util.NoSuchElementException;");
    private static final Set<String> THROWN = Set.of("IllegalStateException", "IllegalArgumentException",
        "IndexOutOfBoundsException", "ArithmeticException", "NoSuchElementException");
    private static final String[] FORBIDDEN = {"->", "::", "\\bcatch\\b", "\\bfinally\\b", "\\bsynchronized\\b",
        "\\bassert\\b", "\\bSystem\\.(?!arraycopy)", "\\bMath\\.\\w*Exact", "\\bstatic \\{", "\\bprotected\\b",
        "\\bThread\\b", "\\bRandom\\b", "\\bObject\\b", "\\bhashCode\\b", "\\.equals\\(", "\\btoString\\b", "\" \\+",
        "\\+ \"", "\\bwhile \\(true\\)", "\\bMap\\b", "\\bOptional\\b", "\\bvar\\b", "\\.format\\("};

    public static void main(String[] args) throws Exception {
        String text = Files.readString(Path.of(args[0]));
        for (int i = 0; i < text.length(); i++) {
            if (text.charAt(i) > 126) {
                Check.yes("rule 4: plain signs alone", false);
            }
        }
        String code = text.replaceAll("(?s)/\\*.*?\\*/", "").replaceAll("//[^\n]*", "");
        imports(code);
        for (String pattern : FORBIDDEN) {
            Check.no("the source has " + pattern, Pattern.compile(pattern).matcher(code).find());
        }
        thrown(code);
        library(code);
        shortMethods(code.split("\n"));
        classes();
        Check.finish("LanguageTest");
    }

    private static void imports(String code) {
        for (String line : code.split("\n")) {
            if (line.startsWith("import ") || line.startsWith("package ")) {
                Check.yes("rule 4: " + line, IMPORTS.contains(line));
            }
        }
    }

    private static void thrown(String code) {
        Matcher all = Pattern.compile("\\bthrow\\b[^;]*;").matcher(code);
        Pattern right = Pattern.compile("throw new (\\w+)\\(\"[^\"]*\"\\);");
        while (all.find()) {
            Matcher one = right.matcher(all.group());
            Check.yes("rule 6: " + all.group(), one.matches() && THROWN.contains(one.group(1)));
        }
    }

    private static void library(String code) {
        Matcher used = Pattern.compile("\\b(Math|Arrays|System|Integer|Long|String|List|ArrayList)\\.(\\w+)").matcher(code);
        Set<String> allowed = Set.of("Math.abs", "Math.min", "Math.max", "Math.floorDiv", "Arrays.copyOf",
            "System.arraycopy");
        while (used.find()) {
            Check.yes("rule 4: " + used.group(), allowed.contains(used.group()));
        }
    }

    /** A method begins at a line that ends with an open brace behind ')' or a throws list, four or eight deep. */
    private static void shortMethods(String[] lines) {
        int begin = -1;
        String indent = "";
        for (int i = 0; i < lines.length; i++) {
            boolean head = lines[i].matches("( {4}| {8})\\w.*\\(.*\\).*\\{") && !lines[i].contains(" class ")
                && !lines[i].trim().matches("(if|for|while|switch|\\}).*");
            if (begin < 0 && head) {
                begin = i;
                indent = lines[i].replaceAll("\\S.*", "");
            } else if (begin >= 0 && lines[i].equals(indent + "}")) {
                Check.yes("rule 11: the method at line " + (begin + 1) + " is short", i - begin < 60);
                begin = -1;
            }
        }
    }

    private static void classes() {
        List<Class<?>> all = new ArrayList<>(Arrays.asList(RangingStation.class.getDeclaredClasses()));
        all.add(RangingStation.class);
        Check.yes("rule 11: classes", all.size() <= 12);
        TreeSet<String> face = new TreeSet<>();
        for (Method method : RangingStation.class.getDeclaredMethods()) {
            if (Modifier.isPublic(method.getModifiers())) {
                face.add(method.getName());
            }
        }
        for (Class<?> one : all) {
            int fields = 0;
            for (Field field : one.getDeclaredFields()) {
                boolean constant = Modifier.isStatic(field.getModifiers());
                Check.yes("rule 5: " + field, !constant || Modifier.isFinal(field.getModifiers()));
                fields += constant ? 0 : 1;
            }
            Check.yes("rule 11: fields of " + one, fields <= 20);
            for (Method method : one.getDeclaredMethods()) {
                Check.yes("rule 11: parameters of " + method, method.getParameterCount() <= 7);
                boolean isFace = one == RangingStation.class && Modifier.isPublic(method.getModifiers());
                Check.yes("rule 1: the name of " + method, isFace || !face.contains(method.getName()));
            }
        }
    }
}
