import java.io.IOException;
import java.lang.reflect.Constructor;
import java.lang.reflect.Field;
import java.lang.reflect.Method;
import java.lang.reflect.Modifier;
import java.nio.file.Files;
import java.nio.file.Path;
import java.util.ArrayList;
import java.util.List;
import java.util.Set;
import java.util.TreeSet;
import java.util.regex.Matcher;
import java.util.regex.Pattern;

/** The rules of ../shared/LANGUAGE.md that the file itself or its classes can tell; it runs in the checkout's root. */
public final class LanguageTest {
    private static final Path FILE = Path.of("src/main/java/DyehouseLedger.java");
    private static final Set<String> MAY_BE_THROWN = Set.of("IllegalStateException", "IllegalArgumentException",
            "IndexOutOfBoundsException", "ArithmeticException", "UnsupportedOperationException",
            "NoSuchElementException", "RuntimeException");
    private static final Set<String> LIBRARY = Set.of("String", "StringBuilder", "ArrayList", "List", "Integer", "Long",
            "Math", "Iterator", "Iterable", "Comparable", "System", "Arrays");
    private static final Set<Class<?>> STATIC_TYPES = Set.of(int.class, long.class, boolean.class, char.class,
            String.class, int[].class, long[].class, char[].class, byte[].class);

    public static void main(String[] args) throws IOException {
        String code = withoutCommentsAndSigns(Files.readString(FILE));
        List<Class<?>> classes = new ArrayList<>();
        classes.add(DyehouseLedger.class);
        classes.addAll(List.of(DyehouseLedger.class.getDeclaredClasses()));
        rule1ClassesInside();
        rules2And6WordsThatAreRuledOut(code);
        rule4NamesOfTheLibrary(code, classes);
        rule5StaticFields(classes);
        rule6Throws(code);
        rule11Sizes(classes);
        rule11LengthOfMethods(code);
        Check.close();
    }

    private static String withoutCommentsAndSigns(String text) {
        return text.replaceAll("//.*", "").replaceAll("(?s)/\\*.*?\\*/", "").replaceAll("'(\\\\.|[^'\\\\])'", "0");
    }

    private static void rule1ClassesInside() {
        for (Class<?> inside : DyehouseLedger.class.getDeclaredClasses()) {
            int modifiers = inside.getModifiers();
            boolean hidden = !Modifier.isPublic(modifiers) && !Modifier.isProtected(modifiers);
            Check.due(inside + " is static, private or package-visible", hidden && Modifier.isStatic(modifiers), true);
        }
    }

    private static void rules2And6WordsThatAreRuledOut(String code) {
        String[] out = {"\\bpackage\\b", "->", "::", "\\bfinally\\b", "\\bsynchronized\\b", "\\bassert\\b",
            "\\bhashCode\\b", "\\btoString\\s*\\(\\s*\\)\\s*\\{", "\\bequals\\s*\\([A-Z]", "static\\s*\\{",
            "\\w+Exact\\b", "\\bgetMessage\\b", "extends\\s+\\w*Exception", "\"\\s*\\+", "\\+\\s*\""};
        for (String word : out) {
            Check.due("the file holds " + word, Pattern.compile(word).matcher(code).find(), false);
        }
        Check.due("the file holds a sign above 127", code.chars().anyMatch(sign -> sign > 127), false);
    }

    private static void rule4NamesOfTheLibrary(String code, List<Class<?>> classes) {
        Set<String> known = new TreeSet<>(LIBRARY);
        known.addAll(MAY_BE_THROWN);
        for (Class<?> one : classes) {
            known.add(one.getSimpleName());
            for (Field field : one.getDeclaredFields()) {
                known.add(field.getName());
            }
        }
        Matcher name = Pattern.compile("\\b[A-Z]\\w*").matcher(code);
        while (name.find()) {
            Check.due("the rules know " + name.group(), known.contains(name.group()), true);
        }
    }

    private static void rule5StaticFields(List<Class<?>> classes) {
        for (Class<?> one : classes) {
            for (Field field : one.getDeclaredFields()) {
                if (Modifier.isStatic(field.getModifiers())) {
                    Check.due(field + " is final", Modifier.isFinal(field.getModifiers()), true);
                    Check.due(field + " is of a type for it", STATIC_TYPES.contains(field.getType()), true);
                }
            }
        }
    }

    private static void rule6Throws(String code) {
        Matcher thrown = Pattern.compile("\\bthrow\\b\\s*(new\\s+(\\w+)\\s*\\((\"[^\"]*\")?\\)\\s*;)?").matcher(code);
        while (thrown.find()) {
            boolean right = thrown.group(2) != null && MAY_BE_THROWN.contains(thrown.group(2));
            Check.due("rule 6 knows " + thrown.group(), right, true);
        }
        Matcher caught = Pattern.compile("\\bcatch\\s*\\(\\s*(\\w+)").matcher(code);
        while (caught.find()) {
            Check.due("rule 6 knows " + caught.group(), MAY_BE_THROWN.contains(caught.group(1)), true);
        }
        for (String body : bodies(code)) {
            String head = body.substring(0, body.indexOf('\n'));
            boolean makes = head.matches("\\s*(public |private )?[A-Z]\\w*\\(.*");
            Check.due("a throw in the constructor " + head.trim(), makes && body.contains("throw new"), false);
            boolean both = body.contains("throw new") && body.contains("catch");
            Check.due("throw and catch in " + head.trim(), both, false);
        }
    }

    private static void rule11Sizes(List<Class<?>> classes) {
        Check.due("at most twelve classes, " + classes.size(), classes.size() <= 12, true);
        for (Class<?> one : classes) {
            int fields = 0;
            for (Field field : one.getDeclaredFields()) {
                fields += Modifier.isStatic(field.getModifiers()) ? 0 : 1;
            }
            Check.due("at most twenty fields in " + one + ", " + fields, fields <= 20, true);
            for (Method method : one.getDeclaredMethods()) {
                Check.due("at most seven parameters, " + method, method.getParameterCount() <= 7, true);
            }
            for (Constructor<?> maker : one.getDeclaredConstructors()) {
                Check.due("at most seven parameters, " + maker, maker.getParameterCount() <= 7, true);
            }
        }
    }

    private static void rule11LengthOfMethods(String code) {
        for (String body : bodies(code)) {
            long lines = body.lines().count();
            Check.due("at most sixty lines, " + body.lines().findFirst().orElse("") + lines, lines <= 60, true);
        }
    }

    /** The methods and constructors, each from its head to the brace that stands under it. */
    private static List<String> bodies(String code) {
        List<String> found = new ArrayList<>();
        Pattern method = Pattern.compile("(?ms)^( {4}| {8})(?! |static final class|private static final class|"
                + "if|for|while|switch|do|try)[^\\n;=]*\\)[^\\n;=]*\\{\\n.*?^\\1\\}");
        Matcher body = method.matcher(code);
        while (body.find()) {
            found.add(body.group());
        }
        Check.due("methods found", found.size() > DyehouseLedger.class.getDeclaredMethods().length, true);
        return found;
    }
}
