import java.lang.reflect.Constructor;
import java.lang.reflect.Field;
import java.lang.reflect.Method;
import java.lang.reflect.Modifier;
import java.util.ArrayList;
import java.util.Arrays;
import java.util.List;
import java.util.TreeSet;

/** LANGUAGE.md's rule 1: the document's face and no member more. */
final class FaceTest {
    private static final String[] FACE = {
        "int task()", "int order(int,int,int,int)", "int promise(int)", "int channels(int,int)",
        "int handler(int,int,int,int)", "long advance(int)", "int execute(int,int)", "int timer(int,int,int)",
        "boolean cancel(int)", "boolean complete(int,int,int)", "void listen(int,int)", "void fire(int,int)",
        "void shutdown(int,int)", "int step(int)", "int loop(int,int)", "int look(int,int)", "int traced()",
        "int trace(int,int)"};

    public static void main(String[] args) {
        Check.same("public and final", LoopGroup.class.getModifiers() & (Modifier.PUBLIC | Modifier.FINAL),
            Modifier.PUBLIC | Modifier.FINAL);
        methods();
        constructors();
        fields();
        nested();
        Check.end();
    }

    private static void methods() {
        TreeSet<String> open = new TreeSet<>();
        TreeSet<String> names = new TreeSet<>();
        for (Method method : LoopGroup.class.getDeclaredMethods()) {
            if (!Modifier.isPrivate(method.getModifiers())) {
                open.add(signature(method));
                names.add(method.getName());
                Check.same(method + " public", Modifier.isPublic(method.getModifiers()), true);
            }
        }
        Check.same("methods", open.toString(), new TreeSet<>(Arrays.asList(FACE)).toString());
        List<Class<?>> all = new ArrayList<>(Arrays.asList(LoopGroup.class.getDeclaredClasses()));
        all.add(LoopGroup.class);
        for (Class<?> one : all) {
            for (Method method : one.getDeclaredMethods()) {
                boolean isFace = one == LoopGroup.class && Modifier.isPublic(method.getModifiers());
                Check.same(one + " " + method.getName() + " bears a public name",
                    !isFace && names.contains(method.getName()), false);
            }
        }
    }

    private static String signature(Method method) {
        StringBuilder text = new StringBuilder(method.getReturnType() + " " + method.getName() + "(");
        String comma = "";
        for (Class<?> type : method.getParameterTypes()) {
            text.append(comma).append(type);
            comma = ",";
        }
        return text.append(")").toString();
    }

    private static void constructors() {
        Constructor<?>[] all = LoopGroup.class.getDeclaredConstructors();
        Check.same("constructors", all.length, 1);
        Check.same("the constructor", Arrays.toString(all[0].getParameterTypes()), "[int]");
        Check.same("it is public", Modifier.isPublic(all[0].getModifiers()), true);
    }

    private static void fields() {
        for (Field field : LoopGroup.class.getDeclaredFields()) {
            Check.same(field + " private", Modifier.isPrivate(field.getModifiers()), true);
        }
        for (Class<?> one : LoopGroup.class.getDeclaredClasses()) {
            for (Field field : one.getDeclaredFields()) {
                boolean isVariable = Modifier.isStatic(field.getModifiers()) && !Modifier.isFinal(field.getModifiers());
                Check.same(field + " static and not final", isVariable, false);
            }
        }
    }

    private static void nested() {
        Class<?>[] all = LoopGroup.class.getDeclaredClasses();
        Check.same("some twelve classes at most", all.length <= 12, true);
        for (Class<?> one : all) {
            int open = one.getModifiers() & (Modifier.PUBLIC | Modifier.PROTECTED);
            Check.same(one + " private or package-visible", open, 0);
            Check.same(one + " static", Modifier.isStatic(one.getModifiers()), true);
        }
    }
}
