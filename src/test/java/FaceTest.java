import java.lang.reflect.Constructor;
import java.lang.reflect.Method;
import java.lang.reflect.Modifier;
import java.util.ArrayList;
import java.util.Collections;
import java.util.List;

/** The class shows the document's face and nothing else. */
public final class FaceTest {
    private static final String[] FACE = {
        "int add(int, char, int, int, int) IllegalArgumentException IllegalStateException",
        "int empty(int) IllegalArgumentException",
        "int setFields(int, int) IllegalArgumentException",
        "int setCarry(int, boolean, int, int, int) IllegalArgumentException",
        "int map(int, int, int) IllegalArgumentException",
        "int publish() IllegalStateException",
        "boolean isTouched(int, int) IndexOutOfBoundsException IllegalArgumentException",
        "int start(int, int) IllegalArgumentException IllegalStateException",
        "int step(int, int) IllegalArgumentException",
        "int release(int) IllegalArgumentException IllegalStateException",
        "char state(int) IllegalArgumentException",
        "int frames(int) IllegalArgumentException",
        "int at(int, int) IllegalArgumentException IndexOutOfBoundsException",
        "int local(int, int, int) IllegalArgumentException IndexOutOfBoundsException",
        "int change(char, boolean, boolean, int) IllegalArgumentException IllegalStateException",
        "char changed(int) IndexOutOfBoundsException",
        "int queued()",
        "int present()",
        "int versions()",
        "int against() NoSuchElementException",
        "boolean watch(int)",
        "boolean isWatched()",
        "int objects()",
        "int shape(int) IndexOutOfBoundsException",
        "int field(int, int) IndexOutOfBoundsException",
        "int fieldIn(int, int, int) IndexOutOfBoundsException",
        "int entry(int) IndexOutOfBoundsException",
        "int puts()",
        "int putAt(int) IndexOutOfBoundsException",
        "int putIn(int) IndexOutOfBoundsException",
        "long steps()",
        "float carriedShare() ArithmeticException",
        "double meanFrames() ArithmeticException",
    };

    public static void main(String[] args) {
        Due due = new Due("FaceTest");
        due.same("class is public and final", Modifier.PUBLIC | Modifier.FINAL, SwapWhile.class.getModifiers());
        checkMethods(due);
        checkConstructors(due);
        due.same("fields that are seen from outside", 0, countOpen(SwapWhile.class.getDeclaredFields()));
        due.close();
    }

    private static void checkMethods(Due due) {
        List<String> found = new ArrayList<>();
        List<String> hidden = new ArrayList<>();
        for (Method method : SwapWhile.class.getDeclaredMethods()) {
            if (Modifier.isPrivate(method.getModifiers())) {
                hidden.add(method.getName());
            } else {
                found.add(describe(method));
            }
        }
        List<String> wanted = new ArrayList<>(List.of(FACE));
        Collections.sort(found);
        Collections.sort(wanted);
        due.same("the methods", wanted.toString(), found.toString());
        for (Method method : SwapWhile.class.getDeclaredMethods()) {
            if (Modifier.isPublic(method.getModifiers())) {
                due.same("a private " + method.getName(), false, hidden.contains(method.getName()));
            }
        }
    }

    private static void checkConstructors(Due due) {
        Constructor<?>[] all = SwapWhile.class.getDeclaredConstructors();
        due.same("number of constructors", 1, all.length);
        due.same("the constructor's modifiers", Modifier.PUBLIC, all[0].getModifiers());
        due.same("the constructor's parameters", 0, all[0].getParameterCount());
    }

    private static int countOpen(java.lang.reflect.Field[] fields) {
        int count = 0;
        for (java.lang.reflect.Field field : fields) {
            if (!Modifier.isPrivate(field.getModifiers())) {
                count++;
            }
        }
        return count;
    }

    private static String describe(Method method) {
        StringBuilder text = new StringBuilder();
        if (method.getModifiers() != Modifier.PUBLIC) {
            text.append(Modifier.toString(method.getModifiers())).append(' ');
        }
        text.append(method.getReturnType().getSimpleName()).append(' ').append(method.getName()).append('(');
        String between = "";
        for (Class<?> parameter : method.getParameterTypes()) {
            text.append(between).append(parameter.getSimpleName());
            between = ", ";
        }
        text.append(')');
        for (Class<?> exception : method.getExceptionTypes()) {
            text.append(' ').append(exception.getSimpleName());
        }
        return text.toString();
    }
}
