import java.util.NoSuchElementException;

/**
 * Every call at the bounds of its arguments, a step below and a step above, in several states: what the document
 * refuses is refused with the exception that is documented first and changes nothing; nothing else is refused.
 */
public final class BoundsTest {
    private static final Class<IllegalArgumentException> ARGUMENT = IllegalArgumentException.class;
    private static final Class<IllegalStateException> STATE = IllegalStateException.class;
    private static final Class<IndexOutOfBoundsException> INDEX = IndexOutOfBoundsException.class;
    private static final Class<ArithmeticException> ARITHMETIC = ArithmeticException.class;

    private static final int[] FEW = {Integer.MIN_VALUE, -2, -1, 0, 1, 2, 3, 4, 5, 6, 7, Integer.MAX_VALUE};
    private static final int[] PLACES = {Integer.MIN_VALUE, -2, -1, 0, 1, 2, 3, 4, 6, 7, 8, 9, 10, 11,
        Integer.MAX_VALUE};
    private static final int[] MANY = {Integer.MIN_VALUE, -1000, -10, -2, -1, 0, 1, 2, 3, 4, 5, 6, 9, 10, 11, 13, 14,
        20, 23, 24, 29, 30, 31, 33, 98, 99, 100, 199, 200, 201, 1000, Integer.MAX_VALUE};
    private static final String KINDS = "kangpjctsrow";
    // The highest numbers of each kind of instruction, from 0; 'F' is a kind and a field, '*' any int.
    private static final String[] HIGHEST = {"3*", "33", "32", "3F3", "3F3", "3P", "433", "333", "34", "3", "3", ""};

    private interface Call {
        Object run(SwapWhile machine);
    }

    private final Due due = new Due("BoundsTest");
    private Scene scene;
    private SwapWhile kept;
    private String before;
    private int refused;
    private int taken;

    public static void main(String[] args) {
        BoundsTest test = new BoundsTest();
        for (Scene scene : Scene.all()) {
            test.look(scene);
        }
        test.due.close();
    }

    private void look(Scene next) {
        scene = next;
        kept = scene.make();
        before = Snapshot.of(kept);
        refused = 0;
        taken = 0;
        isAsKnown();
        adds();
        empties();
        setsFields();
        setsCarries();
        maps();
        publishesAndTouched();
        starts();
        steps();
        releases();
        asksForStates();
        asksForFrames();
        changes();
        asksForChanges();
        asksForObjects();
        asksForPuts();
        figures();
        due.same(scene.name + " has seen refusals and answers", true, refused > 1000 && taken > 300);
    }

    /** A refused call is tried on the one machine that is kept, any other on a machine of its own. */
    private void check(String what, Class<? extends RuntimeException> want, Call call) {
        String told = scene.name + " " + what;
        if (want == null) {
            taken++;
            SwapWhile own = scene.make();
            due.works(told, () -> call.run(own));
            return;
        }
        refused++;
        due.fails(told, want, () -> call.run(kept));
        String after = Snapshot.of(kept);
        due.same(told + " changes nothing", true, before.equals(after));
        if (!before.equals(after)) {
            kept = scene.make();
        }
    }

    private static boolean isIn(int number, int bound) {
        return number >= 0 && number < bound;
    }

    private static Class<? extends RuntimeException> unless(boolean isFine, Class<? extends RuntimeException> want) {
        return isFine ? null : want;
    }

    /** What is known of the scene by hand is so. */
    private void isAsKnown() {
        due.same("versions", scene.versions, kept.versions());
        due.same("queued", scene.queued, kept.queued());
        due.same("objects", scene.kinds.length, kept.objects());
        due.same("puts", scene.puts, kept.puts());
        for (int thread = 0; thread < 3; thread++) {
            due.same("state", scene.states.charAt(thread), kept.state(thread));
            due.same("frames", scene.frames[thread], kept.frames(thread));
        }
        for (int object = 0; object < scene.shapes.length; object++) {
            due.same("shape", scene.shapes[object], kept.shape(object));
        }
        for (int function = 0; function < 5; function++) {
            due.same("instructions", scene.drafted[function], scene.make().empty(function));
        }
        for (int kind = 0; kind < 3; kind++) {
            due.same("fields", scene.fieldsDrafted[kind], scene.make().setFields(kind, 1));
        }
    }

    // ---- drafts

    private void adds() {
        for (int function : MANY) {
            for (char kind : KINDS.toCharArray()) {
                add(function, kind, 0, 0, 0);
            }
            add(function, 'z', 0, 0, 0);
            add(function, 'k', 4, 0, 0);
        }
        for (char kind = 0; kind < 300; kind++) {
            add(0, kind, 0, 0, 0);
        }
        for (char kind : new char[] {'k' + 256, 'K', 65535}) {
            add(3, kind, 0, 0, 0);
        }
        for (char kind : KINDS.toCharArray()) {
            for (int number : MANY) {
                add(0, kind, number, 0, 0);
                add(3, kind, 0, number, 0);
                add(4, kind, 0, 0, number);
            }
        }
    }

    private void add(int function, char kind, int a, int b, int c) {
        Class<? extends RuntimeException> want = null;
        if (!isIn(function, 5) || !isInstruction(kind, a, b, c)) {
            want = ARGUMENT;
        } else if (scene.drafted[function] == 10) {
            want = STATE;
        }
        check("add " + function + " " + kind + " " + a + " " + b + " " + c, want, x -> x.add(function, kind, a, b, c));
    }

    private static boolean isInstruction(char kind, int... numbers) {
        int index = KINDS.indexOf(kind);
        if (index < 0) {
            return false;
        }
        String highest = HIGHEST[index];
        for (int i = 0; i < highest.length(); i++) {
            if (!isMeant(numbers[i], highest.charAt(i))) {
                return false;
            }
        }
        return true;
    }

    private static boolean isMeant(int number, char highest) {
        return switch (highest) {
            case '*' -> true;
            case 'P' -> isIn(number, 11);
            case 'F' -> isIn(number, 4) || isIn(number - 10, 4) || isIn(number - 20, 4);
            default -> isIn(number, highest - '0' + 1);
        };
    }

    private void empties() {
        for (int function : MANY) {
            check("empty " + function, unless(isIn(function, 5), ARGUMENT), x -> x.empty(function));
        }
    }

    private void setsFields() {
        for (int kind : FEW) {
            for (int fields : FEW) {
                boolean isFine = isIn(kind, 3) && fields >= 1 && fields <= 4;
                check("setFields " + kind + " " + fields, unless(isFine, ARGUMENT), x -> x.setFields(kind, fields));
            }
        }
    }

    private void setsCarries() {
        for (int kind : FEW) {
            for (int field : FEW) {
                for (int from : FEW) {
                    setCarry(kind, false, field, from);
                    setCarry(kind, true, field, from);
                }
            }
        }
    }

    private void setCarry(int kind, boolean isBack, int field, int from) {
        boolean isFine = false;
        if (isIn(kind, 3)) {
            int ahead = scene.fieldsAhead()[kind];
            int drafted = scene.fieldsDrafted[kind];
            isFine = isIn(field, isBack ? ahead : drafted) && (from == -1 || isIn(from, isBack ? drafted : ahead));
        }
        check("setCarry " + kind + " " + isBack + " " + field + " " + from, unless(isFine, ARGUMENT),
                x -> x.setCarry(kind, isBack, field, from, 9));
    }

    private void maps() {
        for (int function : FEW) {
            for (int place : PLACES) {
                for (int to : PLACES) {
                    boolean isFine = isIn(function, 5) && isIn(place, scene.ahead[function] + 1)
                            && (to == -1 || isIn(to, scene.drafted[function] + 1));
                    check("map " + function + " " + place + " " + to, unless(isFine, ARGUMENT),
                            x -> x.map(function, place, to));
                }
            }
        }
    }

    private void publishesAndTouched() {
        check("publish", unless(scene.versions < 6, STATE), SwapWhile::publish);
        for (int version : FEW) {
            for (int function : FEW) {
                Class<? extends RuntimeException> want = null;
                if (!isIn(version, scene.versions - 1)) {
                    want = INDEX;
                } else if (!isIn(function, 5)) {
                    want = ARGUMENT;
                }
                check("isTouched " + version + " " + function, want, x -> x.isTouched(version, function));
            }
        }
    }

    // ---- threads

    private void starts() {
        for (int thread : FEW) {
            for (int function : FEW) {
                Class<? extends RuntimeException> want = null;
                if (!isIn(thread, 3) || !isIn(function, 5)) {
                    want = ARGUMENT;
                } else if ("rw".indexOf(scene.states.charAt(thread)) >= 0) {
                    want = STATE;
                }
                check("start " + thread + " " + function, want, x -> x.start(thread, function));
            }
        }
    }

    private void steps() {
        for (int thread : FEW) {
            for (int steps : MANY) {
                boolean isFine = isIn(thread, 3) && steps >= 1 && steps <= 99;
                check("step " + thread + " " + steps, unless(isFine, ARGUMENT), x -> x.step(thread, steps));
            }
        }
    }

    private void releases() {
        for (int thread : MANY) {
            Class<? extends RuntimeException> want = null;
            if (!isIn(thread, 3)) {
                want = ARGUMENT;
            } else if (scene.states.charAt(thread) != 'w') {
                want = STATE;
            }
            check("release " + thread, want, x -> x.release(thread));
        }
    }

    private void asksForStates() {
        for (int thread : MANY) {
            check("state " + thread, unless(isIn(thread, 3), ARGUMENT), x -> x.state(thread));
            check("frames " + thread, unless(isIn(thread, 3), ARGUMENT), x -> x.frames(thread));
        }
    }

    private void asksForFrames() {
        for (int thread : FEW) {
            for (int frame : PLACES) {
                check("at " + thread + " " + frame, whyNoFrame(thread, frame, 0), x -> x.at(thread, frame));
                for (int local : FEW) {
                    check("local " + thread + " " + frame + " " + local, whyNoFrame(thread, frame, local),
                            x -> x.local(thread, frame, local));
                }
            }
        }
    }

    private Class<? extends RuntimeException> whyNoFrame(int thread, int frame, int local) {
        if (!isIn(thread, 3) || !isIn(local, 4)) {
            return ARGUMENT;
        }
        return unless(isIn(frame, scene.frames[thread]), INDEX);
    }

    // ---- changes

    private void changes() {
        for (char mode = 0; mode < 300; mode++) {
            change(mode, 1);
        }
        for (char mode : new char[] {'w' + 256, 'o' + 256, 65535, 'w', 'm', 'o', 'x'}) {
            for (int patience : MANY) {
                change(mode, patience);
            }
        }
    }

    private void change(char mode, int patience) {
        Class<? extends RuntimeException> want = null;
        if ("wmo".indexOf(mode) < 0 || patience < 1 || patience > 200) {
            want = ARGUMENT;
        } else if (scene.asked == 30) {
            want = STATE;
        }
        for (int i = 0; i < 4; i++) {
            boolean isBack = i % 2 == 1;
            boolean isAtOnce = i >= 2;
            check("change " + mode + " " + isBack + " " + isAtOnce + " " + patience, want,
                    x -> x.change(mode, isBack, isAtOnce, patience));
        }
    }

    private void asksForChanges() {
        for (int change : MANY) {
            check("changed " + change, unless(isIn(change, scene.asked), INDEX), x -> x.changed(change));
        }
        check("against", unless(scene.queued > 0, NoSuchElementException.class), SwapWhile::against);
        for (int limit : MANY) {
            check("watch " + limit, null, x -> x.watch(limit));
        }
    }

    // ---- objects, what is put out, figures

    private void asksForObjects() {
        for (int object : MANY) {
            boolean isObject = isIn(object, scene.kinds.length);
            check("shape " + object, unless(isObject, INDEX), x -> x.shape(object));
            for (int field : FEW) {
                boolean isField = isObject && hasField(object, scene.shapes[object], field);
                check("field " + object + " " + field, unless(isField, INDEX), x -> x.field(object, field));
                for (int version : FEW) {
                    boolean isThere = isObject && isIn(version, scene.versions) && hasField(object, version, field);
                    check("fieldIn " + object + " " + version + " " + field, unless(isThere, INDEX),
                            x -> x.fieldIn(object, version, field));
                }
            }
        }
        for (int entry : MANY) {
            check("entry " + entry, unless(isIn(entry, 4), INDEX), x -> x.entry(entry));
        }
    }

    private boolean hasField(int object, int version, int field) {
        return isIn(field, scene.fields[version][scene.kinds[object]]);
    }

    private void asksForPuts() {
        for (int index : MANY) {
            check("putAt " + index, unless(isIn(index, scene.puts), INDEX), x -> x.putAt(index));
            check("putIn " + index, unless(isIn(index, scene.puts), INDEX), x -> x.putIn(index));
        }
    }

    private void figures() {
        boolean isAnyAlive = scene.states.indexOf('r') >= 0 || scene.states.indexOf('w') >= 0;
        check("carriedShare", unless(scene.kinds.length > 0, ARITHMETIC), SwapWhile::carriedShare);
        check("meanFrames", unless(isAnyAlive, ARITHMETIC), SwapWhile::meanFrames);
        check("steps", null, SwapWhile::steps);
        check("puts", null, SwapWhile::puts);
        check("objects", null, SwapWhile::objects);
        check("queued", null, SwapWhile::queued);
        check("present", null, SwapWhile::present);
        check("versions", null, SwapWhile::versions);
        check("isWatched", null, SwapWhile::isWatched);
    }
}
