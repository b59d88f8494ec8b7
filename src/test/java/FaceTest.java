import java.io.IOException;
import java.lang.reflect.Constructor;
import java.lang.reflect.Field;
import java.lang.reflect.Member;
import java.lang.reflect.Method;
import java.lang.reflect.Modifier;
import java.nio.file.Files;
import java.nio.file.Path;
import java.util.Arrays;
import java.util.TreeSet;
import java.util.regex.Matcher;
import java.util.regex.Pattern;
import java.util.stream.Collectors;

/** The document's public face, all of it and nothing else, and what a look at the source can tell of LANGUAGE.md. */
public final class FaceTest {
    private static final Checks CHECKS = new Checks("FaceTest");
    private static final Pattern METHOD = Pattern.compile("public (\\w+) (\\w+)\\(([^)]*)\\)(?: throws ([^;]*))?;");
    private static final Pattern CONSTANTS = Pattern.compile("public static final int ([^;]*);");
    /** Rules 2, 3, 4, 6 and 13: what has no place in the program. */
    private static final String[] FORBIDDEN = {"->", "::", "finally", "synchronized", "assert ", "catch (", "try {", "Exact(", "System.out",
        "currentTimeMillis", "nanoTime", "Random", "package ", "static {", "equals(", "hashCode", "toString"};

    public static void main(String[] args) throws IOException {
        String face = faceOf(Files.readString(Path.of("../shared/DOC.md")));
        CHECKS.sameText("methods", lines(madeMethods()), lines(wantedMethods(face)));
        CHECKS.sameText("constants", lines(madeConstants()), lines(wantedConstants(face)));
        shape();
        source(Files.readString(Path.of("src/main/java/BalloonPost.java")));
        CHECKS.finish();
    }

    private static String faceOf(String document) {
        int start = document.indexOf("```java");
        return document.substring(start, document.indexOf("```", start + 3));
    }

    private static TreeSet<String> wantedMethods(String face) {
        TreeSet<String> methods = new TreeSet<>();
        Matcher found = METHOD.matcher(face);
        while (found.find()) {
            String types = Arrays.stream(found.group(3).split(", ")).map(p -> p.split(" ")[0]).collect(Collectors.joining(","));
            String thrown = found.group(4) == null ? "" : Arrays.stream(found.group(4).split(", ")).sorted().collect(Collectors.joining(","));
            methods.add(found.group(1) + " " + found.group(2) + "(" + types + ") " + thrown);
        }
        return methods;
    }

    private static TreeSet<String> madeMethods() {
        TreeSet<String> methods = new TreeSet<>();
        for (Method method : BalloonPost.class.getDeclaredMethods()) {
            if (belongsToFace(method)) {
                String types = Arrays.stream(method.getParameterTypes()).map(Class::getName).collect(Collectors.joining(","));
                String thrown = Arrays.stream(method.getExceptionTypes()).map(Class::getSimpleName).sorted().collect(Collectors.joining(","));
                methods.add(method.getReturnType().getName() + " " + method.getName() + "(" + types + ") " + thrown);
            }
        }
        return methods;
    }

    private static TreeSet<String> wantedConstants(String face) {
        TreeSet<String> constants = new TreeSet<>();
        Matcher found = CONSTANTS.matcher(face);
        while (found.find()) {
            constants.addAll(Arrays.asList(found.group(1).split(", ")));
        }
        return constants;
    }

    private static TreeSet<String> madeConstants() {
        TreeSet<String> constants = new TreeSet<>();
        for (Field field : BalloonPost.class.getDeclaredFields()) {
            if (belongsToFace(field)) {
                constants.add(field.getName() + " = " + valueOf(field));
            }
        }
        return constants;
    }

    private static String valueOf(Field field) {
        try {
            return String.valueOf(field.getInt(null));
        } catch (IllegalAccessException e) {
            return e.toString();
        }
    }

    private static boolean belongsToFace(Member member) {
        return !Modifier.isPrivate(member.getModifiers()) && !member.isSynthetic();
    }

    private static String lines(TreeSet<String> texts) {
        return String.join("\n", texts);
    }

    private static void shape() {
        Constructor<?>[] constructors = BalloonPost.class.getDeclaredConstructors();
        CHECKS.same("constructors", constructors.length, 1);
        CHECKS.same("it is public", constructors[0].getModifiers(), Modifier.PUBLIC);
        CHECKS.same("its parameters", constructors[0].getParameterCount(), 0);
        CHECKS.same("the class is public and final", BalloonPost.class.getModifiers(), Modifier.PUBLIC | Modifier.FINAL);
        for (Method hidden : BalloonPost.class.getDeclaredMethods()) {
            boolean bearsPublicName = !belongsToFace(hidden) && madeMethods().stream().anyMatch(m -> m.contains(" " + hidden.getName() + "("));
            CHECKS.same("private method with a public name: " + hidden.getName(), bearsPublicName ? 1 : 0, 0);
        }
        for (Class<?> inner : BalloonPost.class.getDeclaredClasses()) {
            int modifiers = inner.getModifiers();
            boolean hidden = Modifier.isStatic(modifiers) && !Modifier.isPublic(modifiers) && !Modifier.isProtected(modifiers);
            CHECKS.same("hidden and static: " + inner.getName(), hidden ? 1 : 0, 1);
        }
    }

    private static void source(String program) {
        for (String part : FORBIDDEN) {
            CHECKS.same("the program holds no " + part, program.indexOf(part), -1);
        }
        CHECKS.same("signs beyond 127", program.chars().filter(sign -> sign > 127).count(), 0);
    }
}
