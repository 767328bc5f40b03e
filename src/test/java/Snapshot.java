import java.lang.reflect.Array;
import java.lang.reflect.Field;
import java.lang.reflect.Modifier;
import java.util.List;

/** All that a machine holds inside, the draft too, as a text: two that are alike answer alike from then on. */
final class Snapshot {
    private static final int DEEPEST = 12;

    private Snapshot() {
    }

    static String of(SwapWhile machine) {
        StringBuilder text = new StringBuilder();
        tell(machine, text, 0);
        return text.toString();
    }

    private static void tell(Object value, StringBuilder text, int depth) {
        if (depth > DEEPEST) {
            throw new IllegalStateException("the machine holds itself");
        }
        if (value == null || value instanceof Number || value instanceof Boolean || value instanceof Character) {
            text.append(value).append(' ');
        } else if (value.getClass().isArray()) {
            text.append('[');
            for (int i = 0; i < Array.getLength(value); i++) {
                tell(Array.get(value, i), text, depth + 1);
            }
            text.append(']');
        } else if (value instanceof List<?> list) {
            text.append('(');
            for (Object element : list) {
                tell(element, text, depth + 1);
            }
            text.append(')');
        } else {
            tellFields(value, text, depth);
        }
    }

    private static void tellFields(Object value, StringBuilder text, int depth) {
        text.append('{');
        for (Field field : value.getClass().getDeclaredFields()) {
            if (Modifier.isStatic(field.getModifiers())) {
                continue;
            }
            field.setAccessible(true);
            try {
                text.append(field.getName()).append('=');
                tell(field.get(value), text, depth + 1);
            } catch (IllegalAccessException e) {
                throw new IllegalStateException("a field cannot be seen");
            }
        }
        text.append('}');
    }
}
