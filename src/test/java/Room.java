import java.lang.reflect.Array;
import java.lang.reflect.Field;
import java.lang.reflect.Modifier;
import java.util.ArrayList;
import java.util.List;

/** Counts what hangs on an object: objects and arrays, and their fields and elements. */
final class Room {
    private final List<Object> seen = new ArrayList<>();
    private int fields = 0;

    Room(Object object) {
        look(object);
    }

    int objects() {
        return seen.size();
    }

    int fieldsAndElements() {
        return fields;
    }

    /** Whether both are made of the very same objects and arrays. */
    boolean isSameAs(Room other) {
        if (seen.size() != other.seen.size()) return false;
        for (int i = 0; i < seen.size(); i++) {
            if (seen.get(i) != other.seen.get(i)) return false;
        }
        return true;
    }

    private void look(Object object) {
        if (object == null) return;
        for (Object old : seen) {
            if (old == object) return;
        }
        seen.add(object);
        if (object.getClass().isArray()) lookAtArray(object);
        else lookAtFields(object);
    }

    private void lookAtArray(Object array) {
        int length = Array.getLength(array);
        fields += length;
        if (array.getClass().getComponentType().isPrimitive()) return;
        for (int i = 0; i < length; i++) look(Array.get(array, i));
    }

    private void lookAtFields(Object object) {
        for (Field field : object.getClass().getDeclaredFields()) {
            if (Modifier.isStatic(field.getModifiers())) continue;
            fields++;
            if (!field.getType().isPrimitive()) look(valueOf(field, object));
        }
    }

    private static Object valueOf(Field field, Object object) {
        try {
            field.setAccessible(true);
            return field.get(object);
        } catch (IllegalAccessException e) {
            throw new IllegalStateException(e);
        }
    }
}
