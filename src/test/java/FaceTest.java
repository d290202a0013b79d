import java.io.IOException;
import java.lang.reflect.Constructor;
import java.lang.reflect.Field;
import java.lang.reflect.Method;
import java.lang.reflect.Modifier;
import java.nio.file.Files;
import java.nio.file.Path;
import java.util.ArrayList;
import java.util.Arrays;
import java.util.List;
import java.util.Set;
import java.util.TreeSet;
import java.util.regex.Matcher;
import java.util.regex.Pattern;
import java.util.stream.Collectors;

/** The public face is that of the document, and what can be checked of LANGUAGE.md by a test holds. */
public final class FaceTest {
    private static int wrong;

    public static void main(String[] arguments) throws IOException {
        face();
        language();
        System.out.println(wrong == 0 ? "FaceTest: the face is that of the document" : "FaceTest: fails");
        System.exit(wrong == 0 ? 0 : 1);
    }

    private static void check(boolean good, String what) {
        if (!good) {
            wrong++;
            System.out.println("FaceTest: " + what);
        }
    }

    private static void face() throws IOException {
        String document = Files.readString(Path.of("../shared/DOC.md"));
        String block = document.substring(document.indexOf("```java") + 7);
        block = block.substring(0, block.indexOf("```"));
        Set<String> due = new TreeSet<>();
        for (String line : block.split("\n")) {
            if (line.startsWith("    public ")) {
                due.add(line.trim().replaceAll("(int|boolean) [a-z]+(?=[,)])", "$1").replace(";", ""));
            }
        }
        Set<String> got = new TreeSet<>();
        for (Field f : MatchboxModem.class.getDeclaredFields()) {
            if (!Modifier.isPrivate(f.getModifiers())) {
                got.add(constant(f));
            }
        }
        for (Constructor<?> c : MatchboxModem.class.getDeclaredConstructors()) {
            got.add("public MatchboxModem(" + parameters(c.getParameterTypes()) + ")");
        }
        Set<String> names = new TreeSet<>();
        for (Method m : MatchboxModem.class.getDeclaredMethods()) {
            if (!Modifier.isPrivate(m.getModifiers())) {
                names.add(m.getName());
                got.add("public " + m.getReturnType() + " " + m.getName() + "(" + parameters(m.getParameterTypes())
                        + ")" + exceptions(m));
            }
        }
        check(due.equals(got), "due is " + due + ", but got " + got);
        check(due.size() > 70, "the face of the document was not found");
        check(Modifier.isFinal(MatchboxModem.class.getModifiers()), "the class is not final");
        for (Class<?> inside : MatchboxModem.class.getDeclaredClasses()) {
            check(Modifier.isStatic(inside.getModifiers()), inside + " is not static");
            check(!Modifier.isPublic(inside.getModifiers()), inside + " is public");
            for (Method m : inside.getDeclaredMethods()) {
                check(!names.contains(m.getName()), m + " has the name of a public method");
                check(m.getParameterCount() <= 7, m + " has too many parameters");
            }
            fields(inside);
        }
        fields(MatchboxModem.class);
        check(MatchboxModem.class.getDeclaredClasses().length < 12, "there are too many classes");
    }

    private static void fields(Class<?> type) {
        for (Field f : type.getDeclaredFields()) {
            if (Modifier.isStatic(f.getModifiers())) {
                check(Modifier.isFinal(f.getModifiers()) && f.getType() == int.class, f + " is no constant");
            }
        }
        long own = Arrays.stream(type.getDeclaredFields()).filter(f -> !Modifier.isStatic(f.getModifiers())).count();
        check(own <= 20, type + " has too many fields");
    }

    private static String constant(Field f) {
        try {
            return Modifier.toString(f.getModifiers()) + " " + f.getType() + " " + f.getName() + " = " + f.get(null);
        } catch (IllegalAccessException e) {
            return "not public: " + f;
        }
    }

    private static String parameters(Class<?>[] types) {
        return Arrays.stream(types).map(Class::getName).collect(Collectors.joining(", "));
    }

    private static String exceptions(Method m) {
        List<String> names = new ArrayList<>();
        for (Class<?> type : m.getExceptionTypes()) {
            names.add(type.getSimpleName());
        }
        return names.isEmpty() ? "" : " throws " + String.join(", ", names);
    }

    private static void language() throws IOException {
        String text = Files.readString(Path.of("src/main/java/MatchboxModem.java"));
        check(text.chars().allMatch(c -> c < 128), "a sign is not one of 1 to 127");
        for (String word : List.of("import", "package", "try", "catch", "finally", "synchronized", "assert", "->", "::",
                "instanceof", "System.out", "Exact", "equals(", "hashCode", "toString", "static {")) {
            check(!Pattern.compile("(?<![a-zA-Z])" + Pattern.quote(word)).matcher(text).find(), "has " + word);
        }
        Matcher m = Pattern.compile("throw (?!new (IllegalArgument|IllegalState|IndexOutOfBounds)Exception\\(\"[^\"]*\"\\);)")
                .matcher(text);
        check(!m.find(), "throws something else");
        int begin = 0;
        String[] lines = text.split("\n");
        for (int i = 0; i < lines.length; i++) {
            if (lines[i].matches("( {4}| {8})(public |private |static |final )*[a-zA-Z\\[\\]]+ ?[a-zA-Z]*\\(.*")) {
                begin = i;
            }
            if (lines[i].matches("( {4}| {8})}")) {
                check(i - begin < 60, "the method in line " + (begin + 1) + " is too long");
            }
        }
    }
}
