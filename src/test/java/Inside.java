import java.lang.reflect.Field;
import java.lang.reflect.Modifier;
import java.util.ArrayList;
import java.util.Arrays;
import java.util.Collections;
import java.util.HashMap;
import java.util.IdentityHashMap;
import java.util.List;
import java.util.Map;
import java.util.Set;

/** All that an object holds, found by reflection, so that a test can see that a call left everything as it was. */
final class Inside {
    private static final Map<Class<?>, List<Field>> FIELDS = new HashMap<>();

    private final List<Object> open = new ArrayList<>();
    private final Set<Object> seen = Collections.newSetFromMap(new IdentityHashMap<>());
    private long sum = 1;
    private long elements;

    private Inside(Object root, String leftOut) {
        found(root);
        for (int k = 0; k < open.size(); k++) {
            Object one = open.get(k);
            if (one.getClass().isArray()) {
                array(one);
            } else if (!one.getClass().getSimpleName().equals(leftOut)) {
                fields(one);
            }
        }
    }

    /** A sum over all numbers: the same as long as all of them are. */
    static long all(Group group) {
        return new Inside(group.inside, "").sum;
    }

    /** The same over all but what the trace holds, as a rejected call logs. */
    static long allButTrace(Group group) {
        return new Inside(group.inside, "Trace").sum;
    }

    static Set<Object> objects(Group group) {
        return new Inside(group.inside, "").seen;
    }

    /** Fields and elements of all objects and arrays. */
    static long elements(Group group) {
        return new Inside(group.inside, "").elements;
    }

    /** Sets a number that no run of 512 calls would reach. */
    static void set(Group group, String className, String fieldName, int value) {
        int found = 0;
        for (Object one : objects(group)) {
            for (Field field : fieldsOf(one.getClass())) {
                if (one.getClass().getSimpleName().equals(className) && field.getName().equals(fieldName)) {
                    try {
                        field.setInt(one, value);
                    } catch (IllegalAccessException e) {
                        throw new IllegalStateException(e);
                    }
                    found++;
                }
            }
        }
        Check.same("fields " + className + "." + fieldName, found, 1);
    }

    private void found(Object one) {
        if (one != null && seen.add(one)) {
            open.add(one);
        }
    }

    private void add(long value) {
        sum = sum * 1000003 + value;
    }

    private void array(Object one) {
        if (one instanceof int[]) {
            elements += ((int[]) one).length;
            add(Arrays.hashCode((int[]) one));
        } else if (one instanceof long[]) {
            elements += ((long[]) one).length;
            add(Arrays.hashCode((long[]) one));
        } else if (one instanceof boolean[]) {
            elements += ((boolean[]) one).length;
            add(Arrays.hashCode((boolean[]) one));
        } else if (one instanceof Object[]) {
            elements += ((Object[]) one).length;
            for (Object element : (Object[]) one) {
                found(element);
            }
        } else {
            Check.tell("Inside does not know " + one.getClass());
        }
    }

    private void fields(Object one) {
        for (Field field : fieldsOf(one.getClass())) {
            elements++;
            try {
                if (field.getType() == int.class || field.getType() == long.class) {
                    add(field.getLong(one));
                } else if (!field.getType().isPrimitive()) {
                    found(field.get(one));
                } else {
                    add(field.get(one).hashCode());
                }
            } catch (IllegalAccessException e) {
                throw new IllegalStateException(e);
            }
        }
    }

    private static List<Field> fieldsOf(Class<?> type) {
        List<Field> known = FIELDS.get(type);
        if (known == null) {
            known = new ArrayList<>();
            for (Field field : type.isArray() ? new Field[0] : type.getDeclaredFields()) {
                if (!Modifier.isStatic(field.getModifiers())) {
                    field.setAccessible(true);
                    known.add(field);
                }
            }
            FIELDS.put(type, known);
        }
        return known;
    }
}
