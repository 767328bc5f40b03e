import java.util.NoSuchElementException;

/**
 * Each sentence of the promises that names an exception, quoted ahead of a test of its own: the last argument that is
 * taken, the first one that is refused, and what is thrown if another exception applies, too. A refused call changes
 * nothing.
 */
public final class RefusalsTest {
    private static final Class<IllegalArgumentException> ARGUMENT = IllegalArgumentException.class;
    private static final Class<IllegalStateException> STATE = IllegalStateException.class;
    private static final Class<IndexOutOfBoundsException> INDEX = IndexOutOfBoundsException.class;
    private static final Class<ArithmeticException> ARITHMETIC = ArithmeticException.class;
    private static final int MIN = Integer.MIN_VALUE;
    private static final int MAX = Integer.MAX_VALUE;

    private final Due due = new Due("RefusalsTest");

    public static void main(String[] args) {
        RefusalsTest test = new RefusalsTest();
        test.drafts();
        test.threads();
        test.changes();
        test.objectsAndFigures();
        test.due.close();
    }

    private void drafts() {
        addOfNoFunctionOrKind();
        addOfNumbersOutOfRange();
        addOfAnyNumberWithoutAMeaning();
        addToTenInstructions();
        emptyOfNoFunction();
        setFieldsOutOfRange();
        setCarryOfNoKindOrField();
        mapOfNoFunctionOrPlace();
        publishOfASeventh();
        isTouchedOfNoVersion();
        isTouchedOfNoFunction();
    }

    private void threads() {
        startOfNoThreadOrFunction();
        startOfWhatIsReadyOrWaits();
        stepOfNoThreadOrNumber();
        releaseOfNoThread();
        releaseOfWhatDoesNotWait();
        stateOfNoThread();
        framesOfNoThread();
        atOfNoThread();
        atOfNoFrame();
        localOfNoThreadOrLocal();
        localOfNoFrame();
    }

    private void changes() {
        changeOfNoModeOrPatience();
        changeBehindThirty();
        changedOfNoChange();
        againstOfAnEmptyQueue();
    }

    private void objectsAndFigures() {
        shapeOfNoObject();
        fieldOfNoObjectOrField();
        fieldInOfNoObjectVersionOrField();
        entryOfNone();
        putAtOfNoAmount();
        putInOfNoAmount();
        carriedShareOfNoObjects();
        meanFramesOfNoThreads();
    }

    private void refuses(SwapWhile x, String what, Class<? extends RuntimeException> want, Due.Call call) {
        String before = Snapshot.of(x);
        due.fails(what, want, call);
        due.same(what + " changes nothing", true, before.equals(Snapshot.of(x)));
    }

    private interface Numbered {
        Object run(int number);
    }

    /** Refuses what is below and above the numbers from the least to the most, and takes each of these. */
    private void bounds(SwapWhile x, String what, int least, int most, Class<? extends RuntimeException> want,
            Numbered call) {
        for (int number : new int[] {least - 1, most + 1, MIN, MAX}) {
            refuses(x, what + " " + number, want, () -> call.run(number));
        }
        for (int number = least; number <= most; number++) {
            int taken = number;
            due.works(what + " " + number, () -> call.run(taken));
        }
    }

    // ---- drafts

    /** Promise 2: IllegalArgumentException if there is no such function or kind. */
    private void addOfNoFunctionOrKind() {
        SwapWhile x = new SwapWhile();
        bounds(x, "add to", 0, 4, ARGUMENT, function -> x.add(function, 'w', 0, 0, 0));
        for (char kind = 0; kind < 256; kind++) {
            char one = kind;
            SwapWhile y = new SwapWhile();
            if ("kangpjctsrow".indexOf(kind) < 0) {
                refuses(y, "add kind " + (int) kind, ARGUMENT, () -> y.add(0, one, 0, 0, 0));
            } else {
                due.same("add " + kind, 1, y.add(0, one, 0, 0, 0));
            }
        }
    }

    /**
     * Promise 2: or a number that has a meaning is out of range: locals are 0 to 3, places 0 to 10, functions 0 to 4,
     * entries 0 to 3, kinds 0 to 2, fields 0 to 3.
     */
    private void addOfNumbersOutOfRange() {
        for (char kind : "kangpjro".toCharArray()) {
            addBounds("local, the first of " + kind, 3, (x, number) -> x.add(0, kind, number, 0, 0));
        }
        for (char kind : "act".toCharArray()) {
            addBounds("local, the second of " + kind, 3, (x, number) -> x.add(0, kind, 0, number, 0));
        }
        for (char kind : "gpct".toCharArray()) {
            addBounds("local, the third of " + kind, 3, (x, number) -> x.add(0, kind, 0, 0, number));
        }
        addBounds("place", 10, (x, number) -> x.add(0, 'j', 0, number, 0));
        addBounds("function that is called", 4, (x, number) -> x.add(0, 'c', number, 0, 0));
        addBounds("function of an entry", 4, (x, number) -> x.add(0, 's', 0, number, 0));
        addBounds("entry that is called", 3, (x, number) -> x.add(0, 't', number, 0, 0));
        addBounds("entry that is set", 3, (x, number) -> x.add(0, 's', number, 0, 0));
        addBounds("kind of an object", 2, (x, number) -> x.add(0, 'n', 0, number, 0));
        for (char kind : "gp".toCharArray()) {
            addBounds("kind of a field", 2, (x, number) -> x.add(0, kind, 0, tenTimes(number), 0));
            for (int base = 0; base <= 20; base += 10) {
                addFields(kind, base);
            }
        }
    }

    private interface Added {
        Object run(SwapWhile machine, int number);
    }

    private void addBounds(String what, int most, Added call) {
        for (int number : new int[] {-1, most + 1, MIN, MAX}) {
            SwapWhile x = new SwapWhile();
            refuses(x, what + " " + number, ARGUMENT, () -> call.run(x, number));
        }
        for (int number = 0; number <= most; number++) {
            due.same(what + " " + number, 1, call.run(new SwapWhile(), number));
        }
    }

    /** A number that is far off is left so: ten times it would go round into the range. */
    private static int tenTimes(int number) {
        return Math.abs((long) number) > 100 ? number : 10 * number;
    }

    private void addFields(char kind, int base) {
        for (int field = -10; field < 10; field++) {
            SwapWhile x = new SwapWhile();
            int number = base + field;
            boolean isFine = number >= 0 && Math.floorMod(number, 10) <= 3;
            String what = "field, the second of " + kind + ", " + number;
            if (isFine) {
                due.same(what, 1, x.add(0, kind, 0, number, 0));
            } else {
                refuses(x, what, ARGUMENT, () -> x.add(0, kind, 0, number, 0));
            }
        }
    }

    /** Promise 2: a number that has a meaning; the second number of 'k' is any int. */
    private void addOfAnyNumberWithoutAMeaning() {
        for (int number : new int[] {MIN, -1, 4, 11, MAX}) {
            due.same("the second of k", 1, new SwapWhile().add(0, 'k', 0, number, 0));
            for (char kind : "kanjs".toCharArray()) {
                due.same("the third of " + kind, 1, new SwapWhile().add(0, kind, 0, 0, number));
            }
            for (char kind : "ro".toCharArray()) {
                due.same("the second and third of " + kind, 1, new SwapWhile().add(0, kind, 0, number, number));
            }
            due.same("all of w", 1, new SwapWhile().add(0, 'w', number, number, number));
        }
    }

    /** Promise 2: IllegalStateException if it has 10 instructions; what is documented first is thrown. */
    private void addToTenInstructions() {
        for (int i = 0; i < 5; i++) {
            int function = i;
            SwapWhile x = new SwapWhile();
            for (int count = 1; count <= 10; count++) {
                due.same("add", count, x.add(function, 'k', 0, 1, 0));
            }
            refuses(x, "an eleventh", STATE, () -> x.add(function, 'k', 0, 1, 0));
            refuses(x, "an eleventh of no kind", ARGUMENT, () -> x.add(function, 'x', 0, 1, 0));
            refuses(x, "an eleventh of no local", ARGUMENT, () -> x.add(function, 'k', 4, 1, 0));
            due.same("a first of another", 1, x.add((function + 1) % 5, 'k', 0, 1, 0));
            x.publish();
            refuses(x, "an eleventh on top of ten", STATE, () -> x.add(function, 'k', 0, 1, 0));
        }
    }

    /** Promise 3: IllegalArgumentException if there is no such function. */
    private void emptyOfNoFunction() {
        SwapWhile x = new SwapWhile();
        for (int function = 0; function < 5; function++) {
            Told.add(x, function, "w");
        }
        bounds(x, "empty", 0, 4, ARGUMENT, x::empty);
    }

    /** Promise 4: IllegalArgumentException if a number is out of range. */
    private void setFieldsOutOfRange() {
        SwapWhile x = new SwapWhile();
        x.setFields(0, 3);
        x.setCarry(0, false, 2, 0, 9);
        bounds(x, "setFields of the kind", 0, 2, ARGUMENT, kind -> x.setFields(kind, 2));
        bounds(x, "setFields to", 1, 4, ARGUMENT, fields -> x.setFields(1, fields));
        refuses(x, "setFields of neither", ARGUMENT, () -> x.setFields(3, 0));
    }

    /** Promise 5: IllegalArgumentException if there is no such kind, or a field is not one of the shape. */
    private void setCarryOfNoKindOrField() {
        for (int ahead = 1; ahead <= 4; ahead++) {
            for (int drafted = 1; drafted <= 4; drafted++) {
                SwapWhile x = new SwapWhile();
                for (int kind = 0; kind < 3; kind++) {
                    x.setFields(kind, ahead);
                }
                x.publish();
                for (int kind = 0; kind < 3; kind++) {
                    x.setFields(kind, drafted);
                }
                bounds(x, "forward, the kind", 0, 2, ARGUMENT, kind -> x.setCarry(kind, false, 0, 0, 1));
                bounds(x, "back, the kind", 0, 2, ARGUMENT, kind -> x.setCarry(kind, true, 0, 0, 1));
                bounds(x, "forward, the field", 0, drafted - 1, ARGUMENT, field -> x.setCarry(1, false, field, 0, 1));
                bounds(x, "forward, from", -1, ahead - 1, ARGUMENT, from -> x.setCarry(1, false, 0, from, 1));
                bounds(x, "back, the field", 0, ahead - 1, ARGUMENT, field -> x.setCarry(1, true, field, 0, 1));
                bounds(x, "back, from", -1, drafted - 1, ARGUMENT, from -> x.setCarry(1, true, 0, from, 1));
            }
        }
    }

    /**
     * Promise 6: IllegalArgumentException if there is no such function or place, for either, by their numbers of
     * instructions now.
     */
    private void mapOfNoFunctionOrPlace() {
        for (int ahead = 0; ahead <= 10; ahead++) {
            for (int drafted = 0; drafted <= 10; drafted++) {
                SwapWhile x = new SwapWhile();
                fill(x, ahead);
                x.publish();
                x.empty(2);
                fill(x, drafted);
                bounds(x, "map the place", 0, ahead, ARGUMENT, place -> x.map(2, place, 0));
                bounds(x, "map to", -1, drafted, ARGUMENT, to -> x.map(2, 0, to));
                refuses(x, "unmap a place above", ARGUMENT, () -> x.map(2, 11, -1));
            }
        }
        SwapWhile y = new SwapWhile();
        bounds(y, "map of the function", 0, 4, ARGUMENT, function -> y.map(function, 0, 0));
    }

    private static void fill(SwapWhile x, int count) {
        for (int i = 0; i < count; i++) {
            x.add(2, 'w', 0, 0, 0);
        }
    }

    /** Promise 7: IllegalStateException if there are 6 versions. */
    private void publishOfASeventh() {
        SwapWhile x = new SwapWhile();
        for (int version = 1; version <= 5; version++) {
            due.same("publish", version, x.publish());
        }
        Told.add(x, 0, "w");
        x.setFields(0, 2);
        x.setCarry(0, false, 1, 0, 3);
        x.map(0, 0, 1);
        refuses(x, "publish a seventh", STATE, x::publish);
        refuses(x, "publish it again", STATE, x::publish);
    }

    /** Promise 8: IndexOutOfBoundsException if there is no such version, or no next one. */
    private void isTouchedOfNoVersion() {
        SwapWhile x = new SwapWhile();
        refuses(x, "the only one", INDEX, () -> x.isTouched(0, 0));
        for (int last = 1; last <= 5; last++) {
            x.publish();
            bounds(x, "isTouched", 0, last - 1, INDEX, version -> x.isTouched(version, 4));
            int none = last;
            refuses(x, "no next one, no function", INDEX, () -> x.isTouched(none, 5));
        }
    }

    /** Promise 8: IllegalArgumentException if there is no such function. */
    private void isTouchedOfNoFunction() {
        SwapWhile x = new SwapWhile();
        x.publish();
        x.publish();
        bounds(x, "isTouched of", 0, 4, ARGUMENT, function -> x.isTouched(0, function));
        bounds(x, "isTouched of", 0, 4, ARGUMENT, function -> x.isTouched(1, function));
    }

    // ---- threads

    /** Promise 9: IllegalArgumentException if there is no such thread or function. */
    private void startOfNoThreadOrFunction() {
        SwapWhile x = new SwapWhile();
        bounds(x, "start", 0, 2, ARGUMENT, thread -> x.start(thread, 0));
        for (int function : new int[] {-1, 5, MIN, MAX}) {
            refuses(x, "start what is ready, with " + function, ARGUMENT, () -> x.start(0, function));
            SwapWhile y = new SwapWhile();
            refuses(y, "start with " + function, ARGUMENT, () -> y.start(0, function));
        }
        for (int function = 0; function < 5; function++) {
            due.same("start with " + function, 0, new SwapWhile().start(0, function));
        }
    }

    /** Promise 9: IllegalStateException if it is ready or waits. */
    private void startOfWhatIsReadyOrWaits() {
        SwapWhile x = Told.machine("w", "g 0 0 0");
        for (int i = 0; i < 3; i++) {
            int thread = i;
            due.same("start what was never started", 1, x.start(thread, 0));
            refuses(x, "start what is ready", STATE, () -> x.start(thread, 1));
            x.step(thread, 1);
            refuses(x, "start what waits", STATE, () -> x.start(thread, 1));
            x.release(thread);
            refuses(x, "start what is ready again", STATE, () -> x.start(thread, 1));
            x.step(thread, 1);
            due.same("start what has failed", 1, x.start(thread, 1));
            x.step(thread, 1);
            due.same("start what is done", 1, x.start(thread, 1));
        }
    }

    /** Promise 10: IllegalArgumentException if there is no such thread, or the number is out of range. */
    private void stepOfNoThreadOrNumber() {
        SwapWhile x = Told.machine("k 0 1", "j 0 0");
        x.start(0, 0);
        bounds(x, "step of", 0, 2, ARGUMENT, thread -> x.step(thread, 1));
        bounds(x, "step by", 1, 99, ARGUMENT, steps -> x.step(0, steps));
        bounds(x, "step of what was never started, by", 1, 99, ARGUMENT, steps -> x.step(1, steps));
    }

    /** Promise 11: IllegalArgumentException if there is no such thread. */
    private void releaseOfNoThread() {
        SwapWhile x = Told.machine("w", "w");
        for (int thread = 0; thread < 3; thread++) {
            x.start(thread, 0);
            x.step(thread, 1);
        }
        bounds(x, "release", 0, 2, ARGUMENT, x::release);
    }

    /** Promise 11: IllegalStateException if it does not wait. */
    private void releaseOfWhatDoesNotWait() {
        SwapWhile x = Told.machine("w", "g 0 0 0");
        for (int i = 0; i < 3; i++) {
            int thread = i;
            refuses(x, "release what was never started", STATE, () -> x.release(thread));
            x.start(thread, 0);
            refuses(x, "release what is ready", STATE, () -> x.release(thread));
            x.step(thread, 1);
            due.same("release what waits", 1, x.release(thread));
            refuses(x, "release it again", STATE, () -> x.release(thread));
            x.step(thread, 1);
            refuses(x, "release what has failed", STATE, () -> x.release(thread));
            x.start(thread, 1);
            x.step(thread, 1);
            refuses(x, "release what is done", STATE, () -> x.release(thread));
        }
    }

    /** Promise 12: IllegalArgumentException if there is no such thread. */
    private void stateOfNoThread() {
        SwapWhile x = new SwapWhile();
        bounds(x, "state", 0, 2, ARGUMENT, x::state);
    }

    /** Promise 13: IllegalArgumentException if there is no such thread. */
    private void framesOfNoThread() {
        SwapWhile x = new SwapWhile();
        bounds(x, "frames", 0, 2, ARGUMENT, x::frames);
    }

    /** Three threads with so many frames each. */
    private static SwapWhile deep(int frames) {
        SwapWhile x = Told.machine("c 0 0 0");
        for (int thread = 0; thread < 3; thread++) {
            x.start(thread, 0);
            if (frames > 1) {
                x.step(thread, frames - 1);
            }
        }
        return x;
    }

    /** Promise 14: IllegalArgumentException if there is no such thread. */
    private void atOfNoThread() {
        SwapWhile x = deep(1);
        bounds(x, "at of", 0, 2, ARGUMENT, thread -> x.at(thread, 0));
        refuses(x, "at of no thread, no frame", ARGUMENT, () -> x.at(3, 1));
        refuses(x, "at of no thread, no frame", ARGUMENT, () -> x.at(-1, -1));
    }

    /** Promise 14: IndexOutOfBoundsException if there is no such frame. */
    private void atOfNoFrame() {
        for (int frames = 1; frames <= 8; frames++) {
            SwapWhile x = deep(frames);
            for (int i = 0; i < 3; i++) {
                int thread = i;
                bounds(x, "at", 0, frames - 1, INDEX, frame -> x.at(thread, frame));
            }
        }
        SwapWhile y = deep(8);
        y.step(0, 1);
        refuses(y, "at of what has failed", INDEX, () -> y.at(0, 0));
        y.start(0, 1);
        y.step(0, 1);
        refuses(y, "at of what is done", INDEX, () -> y.at(0, 0));
        SwapWhile z = new SwapWhile();
        refuses(z, "at of what was never started", INDEX, () -> z.at(0, 0));
    }

    /** Promise 15: IllegalArgumentException if there is no such thread or local. */
    private void localOfNoThreadOrLocal() {
        SwapWhile x = deep(1);
        bounds(x, "local of", 0, 2, ARGUMENT, thread -> x.local(thread, 0, 3));
        bounds(x, "local", 0, 3, ARGUMENT, local -> x.local(2, 0, local));
        refuses(x, "no local of no frame", ARGUMENT, () -> x.local(0, 1, 4));
        refuses(x, "no local of no frame", ARGUMENT, () -> x.local(0, -1, -1));
        refuses(x, "no frame of no thread", ARGUMENT, () -> x.local(3, 1, 0));
    }

    /** Promise 15: IndexOutOfBoundsException if there is no such frame. */
    private void localOfNoFrame() {
        for (int frames = 1; frames <= 8; frames++) {
            SwapWhile x = deep(frames);
            for (int i = 0; i < 3; i++) {
                int thread = i;
                bounds(x, "local", 0, frames - 1, INDEX, frame -> x.local(thread, frame, thread));
            }
        }
        SwapWhile y = new SwapWhile();
        refuses(y, "local of what was never started", INDEX, () -> y.local(0, 0, 0));
    }

    // ---- changes

    /** Promise 16: IllegalArgumentException if there is no such mode, or the patience is out of range. */
    private void changeOfNoModeOrPatience() {
        for (char mode = 0; mode < 256; mode++) {
            char one = mode;
            SwapWhile x = new SwapWhile();
            if ("wmo".indexOf(mode) < 0) {
                refuses(x, "mode " + (int) mode, ARGUMENT, () -> x.change(one, false, false, 1));
            } else {
                due.same("mode " + mode, 0, x.change(one, false, false, 1));
            }
        }
        for (char mode : "wmo".toCharArray()) {
            for (int patience : new int[] {MIN, -1, 0, 201, 202, MAX}) {
                SwapWhile x = new SwapWhile();
                refuses(x, "patience " + patience, ARGUMENT, () -> x.change(mode, true, true, patience));
            }
            for (int patience = 1; patience <= 200; patience++) {
                due.same("patience " + patience, 0, new SwapWhile().change(mode, true, true, patience));
            }
        }
    }

    /** Promise 16: IllegalStateException if 30 changes were asked for; what is documented first is thrown. */
    private void changeBehindThirty() {
        for (char mode : "wmo".toCharArray()) {
            SwapWhile x = new SwapWhile();
            x.publish();
            for (int number = 0; number < 30; number++) {
                due.same("change", number, x.change(mode, number % 2 == 1, false, 9));
            }
            refuses(x, "one more", STATE, () -> x.change(mode, false, false, 9));
            refuses(x, "one more back", STATE, () -> x.change(mode, true, true, 9));
            refuses(x, "one more of no mode", ARGUMENT, () -> x.change('x', false, false, 9));
            refuses(x, "one more without patience", ARGUMENT, () -> x.change(mode, false, false, 0));
        }
    }

    /** Promise 17: IndexOutOfBoundsException if there is no such change. */
    private void changedOfNoChange() {
        SwapWhile x = new SwapWhile();
        refuses(x, "none at all", INDEX, () -> x.changed(0));
        for (int asked = 1; asked <= 30; asked++) {
            x.change('o', false, false, 9);
            bounds(x, "changed", 0, asked - 1, INDEX, x::changed);
        }
    }

    /** Promise 21: NoSuchElementException if the queue is empty. */
    private void againstOfAnEmptyQueue() {
        SwapWhile x = Told.machine("w", "w");
        Told.add(x, 0, "w");
        x.publish();
        refuses(x, "against", NoSuchElementException.class, x::against);
        x.start(0, 0);
        x.change('w', false, false, 2);
        due.same("against", 1, x.against());
        x.step(0, 1);
        due.same("against", 1, x.against());
        x.release(0);
        x.step(0, 1);
        due.same("queued", 0, x.queued());
        refuses(x, "against behind a change that was dropped", NoSuchElementException.class, x::against);
        Told.go(x);
        refuses(x, "against behind one that took effect", NoSuchElementException.class, x::against);
    }

    // ---- objects, what is put out, figures

    /** A machine in version 1 with as many objects, which were made by turns of the kinds 0 to 2. */
    private static SwapWhile withObjects(int objects) {
        SwapWhile x = new SwapWhile();
        x.setFields(1, 2);
        x.setFields(2, 4);
        Told.add(x, 0, "n 0 0", "n 0 1", "n 0 2", "k 0 1", "j 0 0");
        Told.publishAndGo(x);
        x.start(0, 0);
        for (int i = 0; i < 99 && x.objects() < objects; i++) {
            x.step(0, 1);
        }
        return x;
    }

    /** Promise 25: IndexOutOfBoundsException if there is no such object. */
    private void shapeOfNoObject() {
        SwapWhile none = withObjects(0);
        refuses(none, "shape of none at all", INDEX, () -> none.shape(0));
        for (int objects = 1; objects <= 30; objects++) {
            SwapWhile x = withObjects(objects);
            bounds(x, "shape", 0, objects - 1, INDEX, x::shape);
        }
    }

    /** Promise 26: IndexOutOfBoundsException if there is no such object, or it has no such field in its shape. */
    private void fieldOfNoObjectOrField() {
        SwapWhile none = withObjects(0);
        refuses(none, "field of none at all", INDEX, () -> none.field(0, 0));
        SwapWhile x = withObjects(3);
        bounds(x, "field 0 of", 0, 2, INDEX, object -> x.field(object, 0));
        bounds(x, "field of the kind 0,", 0, 0, INDEX, field -> x.field(0, field));
        bounds(x, "field of the kind 1,", 0, 1, INDEX, field -> x.field(1, field));
        bounds(x, "field of the kind 2,", 0, 3, INDEX, field -> x.field(2, field));
        x.setFields(1, 3);
        x.setFields(2, 1);
        x.publish();
        Told.go(x);
        bounds(x, "field of the kind 1, not carried,", 0, 1, INDEX, field -> x.field(1, field));
        bounds(x, "field of the kind 2, not carried,", 0, 3, INDEX, field -> x.field(2, field));
        Told.goBack(x);
        x.change('o', false, true, 9);
        bounds(x, "field of the kind 1, carried,", 0, 2, INDEX, field -> x.field(1, field));
        bounds(x, "field of the kind 2, carried,", 0, 0, INDEX, field -> x.field(2, field));
    }

    /** Promise 27: IndexOutOfBoundsException if there is no such object or version, or no such field in that shape. */
    private void fieldInOfNoObjectVersionOrField() {
        SwapWhile x = withObjects(3);
        x.setFields(1, 3);
        x.setFields(2, 1);
        x.publish();
        bounds(x, "fieldIn, the object", 0, 2, INDEX, object -> x.fieldIn(object, 1, 0));
        bounds(x, "fieldIn, the version", 0, 2, INDEX, version -> x.fieldIn(0, version, 0));
        int[][] fields = {{1, 1, 1}, {1, 2, 4}, {1, 3, 1}};
        for (int i = 0; i < 3; i++) {
            int version = i;
            for (int j = 0; j < 3; j++) {
                int object = j;
                bounds(x, "fieldIn, the field", 0, fields[version][object] - 1, INDEX,
                        field -> x.fieldIn(object, version, field));
            }
        }
        due.same("it is left as it is", 1, x.shape(2));
    }

    /** Promise 28: IndexOutOfBoundsException if there is no such entry. */
    private void entryOfNone() {
        SwapWhile x = new SwapWhile();
        bounds(x, "entry", 0, 3, INDEX, x::entry);
    }

    /** A machine that has put out as many amounts, all 0. */
    private static SwapWhile withPuts(int puts) {
        SwapWhile x = Told.machine("o 3", "k 0 1", "j 0 0");
        x.start(0, 0);
        for (int i = 0; i < 999 && x.puts() < puts; i++) {
            x.step(0, 1);
        }
        return x;
    }

    /** Promise 30: IndexOutOfBoundsException if there is no such amount. */
    private void putAtOfNoAmount() {
        SwapWhile none = withPuts(0);
        refuses(none, "putAt of none at all", INDEX, () -> none.putAt(0));
        for (int puts = 1; puts <= 40; puts++) {
            SwapWhile x = withPuts(puts);
            bounds(x, "putAt", 0, puts - 1, INDEX, x::putAt);
        }
    }

    /** Promise 31: IndexOutOfBoundsException if there is no such amount. */
    private void putInOfNoAmount() {
        SwapWhile none = withPuts(0);
        refuses(none, "putIn of none at all", INDEX, () -> none.putIn(0));
        for (int puts = 1; puts <= 40; puts++) {
            SwapWhile x = withPuts(puts);
            bounds(x, "putIn", 0, puts - 1, INDEX, x::putIn);
        }
    }

    /** Promise 33: ArithmeticException if there are no objects. */
    private void carriedShareOfNoObjects() {
        SwapWhile x = withObjects(0);
        refuses(x, "carriedShare", ARITHMETIC, x::carriedShare);
        x.step(0, 1);
        due.same("of one that is", 1.0f, x.carriedShare());
        Told.goBack(x);
        due.same("of one that is not", 0.0f, x.carriedShare());
    }

    /** Promise 34: ArithmeticException if there are none. */
    private void meanFramesOfNoThreads() {
        SwapWhile x = Told.machine("w", "g 0 0 0");
        refuses(x, "never started", ARITHMETIC, x::meanFrames);
        x.start(1, 0);
        due.same("one that is ready", 1.0, x.meanFrames());
        x.step(1, 1);
        due.same("one that waits", 1.0, x.meanFrames());
        x.release(1);
        x.step(1, 1);
        refuses(x, "failed", ARITHMETIC, x::meanFrames);
        x.start(1, 1);
        x.step(1, 1);
        refuses(x, "done", ARITHMETIC, x::meanFrames);
    }
}
