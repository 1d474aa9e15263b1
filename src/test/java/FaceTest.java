import java.lang.reflect.Constructor;
import java.lang.reflect.Field;
import java.lang.reflect.Method;
import java.lang.reflect.Modifier;
import java.util.ArrayList;
import java.util.Arrays;
import java.util.List;
import java.util.TreeSet;
import java.util.regex.Matcher;
import java.util.regex.Pattern;

/** LANGUAGE.md's rule 1: the document's face and no member more. */
final class FaceTest {
    private static final Pattern LINE = Pattern.compile("public (\\w+) (\\w+)\\(([^)]*)\\)(?: throws ([\\w, ]+))?;");

    public static void main(String[] args) {
        Check.same("public and final", LoopGroup.class.getModifiers() & (Modifier.PUBLIC | Modifier.FINAL),
            Modifier.PUBLIC | Modifier.FINAL);
        methods();
        constructors();
        fields();
        nested();
        Check.end();
    }

    private static void methods() {
        TreeSet<String> open = new TreeSet<>();
        TreeSet<String> names = new TreeSet<>();
        for (Method method : LoopGroup.class.getDeclaredMethods()) {
            if (!Modifier.isPrivate(method.getModifiers())) {
                open.add(signature(method));
                names.add(method.getName());
                Check.same(method + " public", Modifier.isPublic(method.getModifiers()), true);
            }
        }
        Check.same("methods", open.toString(), face().toString());
        List<Class<?>> all = new ArrayList<>(Arrays.asList(LoopGroup.class.getDeclaredClasses()));
        all.add(LoopGroup.class);
        for (Class<?> one : all) {
            for (Method method : one.getDeclaredMethods()) {
                boolean isFace = one == LoopGroup.class && Modifier.isPublic(method.getModifiers());
                Check.same(one + " " + method.getName() + " bears a public name",
                    !isFace && names.contains(method.getName()), false);
            }
        }
    }

    /** The document's face, a line for each method, without the names of its parameters. */
    private static TreeSet<String> face() {
        TreeSet<String> lines = new TreeSet<>();
        Matcher matcher = LINE.matcher(Doc.document());
        while (matcher.find()) {
            String types = matcher.group(3).replaceAll("(\\w+) \\w+", "$1");
            String thrown = matcher.group(4) == null ? "" : matcher.group(4);
            lines.add(matcher.group(1) + " " + matcher.group(2) + "(" + types + ") " + thrown);
        }
        Check.same("methods of the face", lines.size(), 18);
        return lines;
    }

    private static String signature(Method method) {
        return method.getReturnType() + " " + method.getName() + "(" + names(method.getParameterTypes()) + ") "
            + names(method.getExceptionTypes());
    }

    private static String names(Class<?>[] types) {
        StringBuilder text = new StringBuilder();
        for (Class<?> type : types) {
            text.append(text.length() == 0 ? "" : ", ").append(type.getSimpleName());
        }
        return text.toString();
    }

    private static void constructors() {
        Constructor<?>[] all = LoopGroup.class.getDeclaredConstructors();
        Check.same("constructors", all.length, 1);
        Check.same("the constructor", Arrays.toString(all[0].getParameterTypes()), "[int]");
        Check.same("it is public", Modifier.isPublic(all[0].getModifiers()), true);
    }

    private static void fields() {
        for (Field field : LoopGroup.class.getDeclaredFields()) {
            Check.same(field + " private", Modifier.isPrivate(field.getModifiers()), true);
        }
        for (Class<?> one : LoopGroup.class.getDeclaredClasses()) {
            for (Field field : one.getDeclaredFields()) {
                boolean isVariable = Modifier.isStatic(field.getModifiers()) && !Modifier.isFinal(field.getModifiers());
                Check.same(field + " static and not final", isVariable, false);
            }
        }
    }

    private static void nested() {
        Class<?>[] all = LoopGroup.class.getDeclaredClasses();
        Check.same("some twelve classes at most", all.length <= 12, true);
        for (Class<?> one : all) {
            int open = one.getModifiers() & (Modifier.PUBLIC | Modifier.PROTECTED);
            Check.same(one + " private or package-visible", open, 0);
            Check.same(one + " static", Modifier.isStatic(one.getModifiers()), true);
        }
    }
}
