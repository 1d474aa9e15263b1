import java.lang.reflect.Array;
import java.lang.reflect.Field;
import java.lang.reflect.Modifier;
import java.util.ArrayList;
import java.util.Collections;
import java.util.IdentityHashMap;
import java.util.List;
import java.util.Set;

/** All that an object holds, found by reflection, so that a test can see that a call left everything as it was. */
final class Inside {
    private final StringBuilder text = new StringBuilder();
    private final Set<Object> seen = Collections.newSetFromMap(new IdentityHashMap<>());
    private long elements;

    private Inside(Object root, Class<?> leftOut) {
        List<Object> open = new ArrayList<>();
        open.add(root);
        seen.add(root);
        for (int k = 0; k < open.size(); k++) {
            Object one = open.get(k);
            if (one.getClass() == leftOut) {
                continue;
            }
            text.append('\n').append(one.getClass().getSimpleName());
            if (one.getClass().isArray()) {
                array(one, open);
            } else {
                fields(one, open);
            }
        }
    }

    /** All numbers, a line for each object. */
    static String all(Group group) {
        return new Inside(group.inside, null).text.toString();
    }

    /** All but what the trace holds: what a rejected call may not change. */
    static String allButTrace(Group group) {
        return new Inside(group.inside, classNamed("Trace")).text.toString();
    }

    static Set<Object> objects(Group group) {
        return new Inside(group.inside, null).seen;
    }

    /** Fields and elements of all objects and arrays. */
    static long elements(Group group) {
        return new Inside(group.inside, null).elements;
    }

    /** Sets a number that no run of 512 calls would reach. */
    static void set(Group group, String className, String fieldName, int value) {
        for (Object one : objects(group)) {
            if (one.getClass() == classNamed(className)) {
                try {
                    Field field = one.getClass().getDeclaredField(fieldName);
                    field.setAccessible(true);
                    field.setInt(one, value);
                    return;
                } catch (ReflectiveOperationException e) {
                    throw new IllegalStateException(e);
                }
            }
        }
        throw new IllegalStateException("no " + className);
    }

    private static Class<?> classNamed(String name) {
        for (Class<?> one : LoopGroup.class.getDeclaredClasses()) {
            if (one.getSimpleName().equals(name)) {
                return one;
            }
        }
        throw new IllegalStateException("no class " + name);
    }

    private void array(Object one, List<Object> open) {
        int length = Array.getLength(one);
        elements += length;
        for (int k = 0; k < length; k++) {
            value(Array.get(one, k), one.getClass().getComponentType(), open);
        }
    }

    private void fields(Object one, List<Object> open) {
        for (Field field : one.getClass().getDeclaredFields()) {
            if (Modifier.isStatic(field.getModifiers())) {
                continue;
            }
            elements++;
            try {
                field.setAccessible(true);
                value(field.get(one), field.getType(), open);
            } catch (IllegalAccessException e) {
                throw new IllegalStateException(e);
            }
        }
    }

    private void value(Object value, Class<?> type, List<Object> open) {
        if (type.isPrimitive()) {
            text.append(' ').append(value);
        } else if (value != null && seen.add(value)) {
            open.add(value);
        }
    }
}
