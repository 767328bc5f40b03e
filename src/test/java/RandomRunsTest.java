import java.lang.reflect.InvocationTargetException;
import java.lang.reflect.Method;
import java.lang.reflect.Modifier;
import java.util.Arrays;
import java.util.HashMap;
import java.util.Map;

/** Long runs of calls, the same each time, that the machine and the model must answer alike. */
public final class RandomRunsTest {
    private static final int RUNS = 600;
    private static final int CALLS = 500;
    private static final int[] ODD = {-1, 5, 11, 40, Integer.MIN_VALUE, Integer.MAX_VALUE, -2, 100};

    private final Due due = new Due("RandomRunsTest");
    private final Map<String, Method> machineMethods = methods(SwapWhile.class);
    private final Map<String, Method> modelMethods = methods(Model.class);
    private final Map<String, Integer> seen = new HashMap<>();
    private SwapWhile machine;
    private Model model;
    private long seed;
    private boolean isAlike;

    public static void main(String[] args) {
        RandomRunsTest test = new RandomRunsTest();
        for (int run = 0; run < RUNS; run++) {
            test.run(run);
        }
        test.checkThatRunsReachFar();
        test.due.close();
    }

    private static Map<String, Method> methods(Class<?> type) {
        Map<String, Method> all = new HashMap<>();
        for (Method method : type.getDeclaredMethods()) {
            if (Modifier.isPublic(method.getModifiers())) {
                all.put(method.getName(), method);
            }
        }
        return all;
    }

    private int below(int bound) {
        seed = seed * 6364136223846793005L + 1442695040888963407L;
        return (int) ((seed >>> 33) % bound);
    }

    private boolean chance(int percent) {
        return below(100) < percent;
    }

    /** A number below the bound for the most part, and an odd one at times. */
    private int number(int bound) {
        return chance(3) ? ODD[below(ODD.length)] : below(bound);
    }

    private void run(int run) {
        seed = run * 7919L + 17;
        machine = new SwapWhile();
        model = new Model();
        isAlike = true;
        write(below(3) + 2);
        call("publish");
        call("change", 'o', false, false, 5);
        for (int i = 0; i < CALLS && isAlike; i++) {
            callAny();
            if (i % 7 == 0 || i == CALLS - 1) {
                due.same("run " + run + " call " + i, "", difference(observe(model, modelMethods),
                        observe(machine, machineMethods)));
            }
        }
    }

    private static String difference(String want, String got) {
        int i = 0;
        while (i < want.length() && i < got.length() && want.charAt(i) == got.charAt(i)) {
            i++;
        }
        int from = Math.max(0, i - 60);
        return want.equals(got) ? "" : "due .." + want.substring(from, Math.min(want.length(), i + 30))
                + ".. answered .." + got.substring(from, Math.min(got.length(), i + 30));
    }

    private void callAny() {
        int pick = below(100);
        if (pick < 45) {
            call("step", number(3), chance(70) ? 1 + below(4) : number(101));
        } else if (pick < 60) {
            callAllOff();
        } else if (pick < 72) {
            call("change", "wmo".charAt(below(3)), chance(45), chance(30), chance(95) ? 1 + below(30) : number(202));
        } else if (pick < 78) {
            edit();
        } else if (pick < 81) {
            call("publish");
        } else if (pick < 84) {
            call("watch", number(12) - 3);
        } else {
            query();
        }
    }

    /** Releases or starts what does not run, for the most part. */
    private void callAllOff() {
        for (int thread = 0; thread < 3; thread++) {
            if (chance(10)) {
                call("release", number(3));
                call("start", number(3), number(5));
            } else if (machine.state(thread) == 'w') {
                call("release", thread);
            } else if (machine.state(thread) != 'r' && chance(50)) {
                call("start", thread, number(5));
            }
        }
    }

    private void query() {
        String[] none = {"queued", "present", "versions", "against", "isWatched", "objects", "puts", "steps",
            "carriedShare", "meanFrames"};
        String[] one = {"state", "frames", "changed", "shape", "entry", "putAt", "putIn"};
        switch (below(6)) {
            case 0 -> call(none[below(none.length)]);
            case 1 -> call(one[below(one.length)], number(5));
            case 2 -> call("fieldIn", number(5), number(6), number(4));
            case 3 -> call("isTouched", number(6), number(5));
            case 4 -> call("local", number(3), number(3), number(4));
            default -> call(chance(50) ? "at" : "field", number(4), number(4));
        }
    }

    /** Fills some functions, so that threads run on for a while. */
    private void write(int functions) {
        call("setFields", 0, 1 + below(3));
        for (int function = 0; function < functions; function++) {
            int length = 3 + below(7);
            for (int i = 0; i < length; i++) {
                addAny(function);
            }
        }
    }

    private void edit() {
        int function = number(5);
        switch (below(6)) {
            case 0 -> {
                call("empty", function);
                for (int i = below(9); i >= 0; i--) {
                    addAny(function);
                }
            }
            case 1 -> call("setFields", number(3), number(5));
            case 2 -> call("setCarry", number(3), chance(50), number(4), number(5) - 1, number(20));
            default -> {
                addAny(function);
                for (int i = below(6); i >= 0; i--) {
                    call("map", function, number(11), number(12) - 1);
                }
            }
        }
    }

    private void addAny(int function) {
        char kind = "kkkannggppjjccctsrow".charAt(below(20));
        if (chance(1)) {
            call("add", function, (char) below(300), number(4), number(4), number(4));
        } else if (kind == 'g' || kind == 'p') {
            call("add", function, kind, number(4), 10 * (chance(80) ? 0 : below(4)) + below(chance(90) ? 2 : 5),
                    number(4));
        } else if (kind == 'k') {
            call("add", function, kind, number(4), chance(60) ? below(2) : number(9), number(4));
        } else if (kind == 'n') {
            call("add", function, kind, number(4), chance(80) ? 0 : number(3), number(4));
        } else {
            call("add", function, kind, number(4), number(4), number(4));
        }
    }

    private void call(String name, Object... arguments) {
        boolean isSeenBefore = chance(20);
        String before = isSeenBefore ? observe(machine, machineMethods) : "";
        String want = answer(model, modelMethods.get(name), arguments);
        String got = answer(machine, machineMethods.get(name), arguments);
        boolean isThrown = got.startsWith("throws");
        due.same(name + Arrays.toString(arguments), want, got);
        if (isSeenBefore && isThrown) {
            due.same(name + " " + got + " and changes nothing", "",
                    difference(before, observe(machine, machineMethods)));
        }
        isAlike = isAlike && want.equals(got);
        seen.merge(isThrown ? name + " " + got : name, 1, Integer::sum);
    }

    private static String answer(Object object, Method method, Object... arguments) {
        try {
            return String.valueOf(method.invoke(object, arguments));
        } catch (InvocationTargetException e) {
            Throwable cause = e.getCause();
            boolean isOwn = object instanceof Model || Due.isThrownHere(cause);
            return (isOwn ? "throws " : "is hit by ") + cause.getClass().getSimpleName();
        } catch (IllegalAccessException e) {
            return "cannot be called";
        }
    }

    /** All that can be seen, but for the draft. */
    private String observe(Object object, Map<String, Method> all) {
        StringBuilder text = new StringBuilder();
        for (String name : new String[] {"queued", "present", "versions", "against", "isWatched", "objects", "puts",
            "steps", "carriedShare", "meanFrames"}) {
            text.append(name).append(' ').append(answer(object, all.get(name))).append(' ');
        }
        for (int i = 0; i < 4; i++) {
            text.append(" entry ").append(answer(object, all.get("entry"), i));
        }
        for (int thread = 0; thread < 3; thread++) {
            text.append(" thread ").append(answer(object, all.get("state"), thread));
            int frames = Integer.parseInt(answer(object, all.get("frames"), thread));
            for (int frame = 0; frame < frames; frame++) {
                text.append(" at ").append(answer(object, all.get("at"), thread, frame));
                for (int local = 0; local < 4; local++) {
                    text.append(' ').append(answer(object, all.get("local"), thread, frame, local));
                }
            }
        }
        observeChangesAndTouched(object, all, text);
        observeObjectsAndPuts(object, all, text);
        return text.toString();
    }

    private void observeChangesAndTouched(Object object, Map<String, Method> all, StringBuilder text) {
        text.append(" changes ");
        for (int change = 0; change < 60; change++) {
            String state = answer(object, all.get("changed"), change);
            text.append(state);
            if (state.length() > 1) {
                break;
            }
        }
        int versions = Integer.parseInt(answer(object, all.get("versions")));
        for (int version = 0; version < versions - 1; version++) {
            for (int function = 0; function < 5; function++) {
                text.append(' ').append(answer(object, all.get("isTouched"), version, function));
            }
        }
    }

    private void observeObjectsAndPuts(Object object, Map<String, Method> all, StringBuilder text) {
        int versions = Integer.parseInt(answer(object, all.get("versions")));
        int objects = Integer.parseInt(answer(object, all.get("objects")));
        for (int i = 0; i < objects; i++) {
            text.append(" object ").append(answer(object, all.get("shape"), i));
            text.append(' ').append(answer(object, all.get("field"), i, 0));
            text.append(' ').append(answer(object, all.get("field"), i, 1));
            for (int version = 0; version < versions; version++) {
                text.append(' ').append(answer(object, all.get("fieldIn"), i, version, i % 2));
            }
        }
        int puts = Integer.parseInt(answer(object, all.get("puts")));
        for (int i = Math.max(0, puts - 20); i < puts; i++) {
            text.append(" put ").append(answer(object, all.get("putAt"), i));
            text.append('/').append(answer(object, all.get("putIn"), i));
        }
    }

    /** Runs that stay shallow would prove little. */
    private void checkThatRunsReachFar() {
        for (String name : machineMethods.keySet()) {
            due.same(name + " was called", true, seen.containsKey(name));
        }
        for (String name : new String[] {"add throws IllegalStateException", "publish throws IllegalStateException",
            "change throws IllegalStateException", "start throws IllegalStateException",
            "release throws IllegalStateException", "at throws IndexOutOfBoundsException",
            "against throws NoSuchElementException", "carriedShare throws ArithmeticException"}) {
            due.same(name + " was seen", true, seen.containsKey(name));
        }
    }
}
