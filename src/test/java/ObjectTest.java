/** Promises 24 to 34: objects, what is put out, and figures. */
public final class ObjectTest {
    private static final Class<IndexOutOfBoundsException> INDEX = IndexOutOfBoundsException.class;
    private static final Class<ArithmeticException> ARITHMETIC = ArithmeticException.class;
    private static final int[] FAR = {-1, 6, 30, Integer.MIN_VALUE, Integer.MAX_VALUE};

    private final Due due = new Due("ObjectTest");

    public static void main(String[] args) {
        ObjectTest test = new ObjectTest();
        test.objectsCounted();
        test.shapes();
        test.fields();
        test.fieldsByShape();
        test.carriedForward();
        test.carriedBack();
        test.carriedAsAtFirst();
        test.carriedVersionByVersion();
        test.carriedByFrames();
        test.carriedByOldFrames();
        test.fieldsInVersions();
        test.fieldInRefuses();
        test.entries();
        test.putsCounted();
        test.putsMany();
        test.stepsCounted();
        test.share();
        test.mean();
        test.due.close();
    }

    /** Promise 24. */
    private void objectsCounted() {
        SwapWhile x = Told.machine("n 0 0", "n 0 1", "n 0 2");
        due.same("objects", 0, x.objects());
        x.start(0, 0);
        for (int i = 1; i <= 3; i++) {
            x.step(0, 1);
            due.same("objects", i, x.objects());
        }
        x.step(0, 1);
        due.same("objects of a thread that is done", 3, x.objects());
    }

    /** Promise 25. */
    private void shapes() {
        SwapWhile x = Told.machine("n 0 0", "n 0 0");
        x.publish();
        x.start(0, 0);
        x.step(0, 1);
        due.same("shape", 1, x.shape(0));
        Told.go(x);
        x.step(0, 1);
        due.same("the shape of the version of the frame", 1, x.shape(1));
        x.start(1, 0);
        x.step(1, 1);
        due.same("shape", 2, x.shape(2));
        due.same("the first stays", 1, x.shape(0));
        due.fails("no object", INDEX, () -> x.shape(3));
        for (int far : FAR) {
            due.fails("no object", INDEX, () -> x.shape(far));
        }
        due.fails("no object at first", INDEX, () -> new SwapWhile().shape(0));
    }

    /** Promise 26. */
    private void fields() {
        SwapWhile x = new SwapWhile();
        x.setFields(0, 4);
        x.setFields(1, 2);
        Told.add(x, 0, "n 1 0", "n 2 1", "k 0 5", "p 0 3 1", "k 0 6", "p 0 10 2", "w");
        Told.publishAndGo(x);
        x.start(0, 0);
        x.step(0, 2);
        due.same("fields at first", "000000", fieldsOf(x, 0) + fieldsOf(x, 1));
        x.step(0, 5);
        due.same("fields", "0005", fieldsOf(x, 0));
        due.same("fields", "60", fieldsOf(x, 1));
        due.fails("no field", INDEX, () -> x.field(0, 4));
        due.fails("no field", INDEX, () -> x.field(1, 2));
        due.fails("no object", INDEX, () -> x.field(2, 0));
        for (int far : FAR) {
            due.fails("no field", INDEX, () -> x.field(0, far));
            due.fails("no object", INDEX, () -> x.field(far, 0));
        }
    }

    private String fieldsOf(SwapWhile x, int object) {
        StringBuilder text = new StringBuilder();
        for (int field = 0; field < 4; field++) {
            try {
                text.append(x.field(object, field));
            } catch (IndexOutOfBoundsException e) {
                return text.toString();
            }
        }
        return text.toString();
    }

    private void fieldsByShape() {
        SwapWhile x = Told.machine("n 1 0", "k 0 5", "p 0 0 1", "w");
        x.setFields(0, 3);
        x.publish();
        x.start(0, 0);
        x.step(0, 9);
        Told.go(x);
        due.fails("a field of the present version, not of its shape", INDEX, () -> x.field(0, 1));
        Told.goBack(x);
        x.change('o', false, true, 9);
        due.same("fields behind carrying", "500", fieldsOf(x, 0));
        Told.goBack(x);
        due.same("as it is kept", 0, x.field(0, 2));
    }

    /** A machine in version 2 with an object of the version 1, whose fields are 1, 2, and in part 3 and 4. */
    private SwapWhile filled(int fields) {
        SwapWhile x = new SwapWhile();
        x.setFields(0, fields);
        Told.add(x, 0, "n 1 0");
        for (int i = 0; i < fields; i++) {
            Told.add(x, 0, "k 0 " + (i + 1), "p 0 " + i + " 1");
        }
        Told.add(x, 0, "w");
        Told.publishAndGo(x);
        x.start(0, 0);
        x.step(0, 20);
        return x;
    }

    private void carriedForward() {
        SwapWhile x = filled(2);
        x.setFields(0, 4);
        x.setCarry(0, false, 0, 1, 10);
        x.setCarry(0, false, 1, 0, -20);
        x.setCarry(0, false, 2, -1, 30);
        x.setCarry(0, false, 3, 1, 0);
        x.publish();
        x.change('o', false, true, 9);
        due.same("each by its own", "12-19302", fieldsOf(x, 0));
        SwapWhile y = filled(1);
        y.setCarry(0, false, 0, 0, Integer.MAX_VALUE);
        y.publish();
        y.change('o', false, true, 9);
        due.same("sums go round", Integer.MIN_VALUE, y.field(0, 0));
    }

    private void carriedBack() {
        SwapWhile x = filled(3);
        x.setFields(0, 2);
        x.setCarry(0, true, 0, 1, 100);
        x.setCarry(0, true, 1, -1, 200);
        x.setCarry(0, true, 2, 0, 300);
        x.publish();
        x.change('o', false, true, 9);
        due.same("forward as at first", "12", fieldsOf(x, 0));
        x.change('o', true, true, 9);
        due.same("back as it was told", "102200301", fieldsOf(x, 0));
    }

    private void carriedAsAtFirst() {
        SwapWhile x = filled(2);
        x.setFields(0, 4);
        x.publish();
        x.setFields(0, 1);
        x.publish();
        x.change('o', false, true, 9);
        due.same("more fields", "1200", fieldsOf(x, 0));
        x.change('o', false, true, 9);
        due.same("fewer fields", "1", fieldsOf(x, 0));
        x.change('o', true, true, 9);
        due.same("back to more fields", "1000", fieldsOf(x, 0));
        x.change('o', true, true, 9);
        due.same("back to two", "10", fieldsOf(x, 0));
    }

    private void carriedVersionByVersion() {
        SwapWhile x = filled(1);
        x.setFields(0, 2);
        x.setCarry(0, false, 1, 0, 10);
        x.publish();
        x.setFields(0, 1);
        x.setCarry(0, false, 0, 1, 100);
        x.setCarry(0, true, 1, 0, 1000);
        x.publish();
        due.same("forward over two", 111, x.fieldIn(0, 3, 0));
        Told.go(x);
        x.change('o', false, true, 9);
        due.same("carried over two", 111, x.field(0, 0));
        due.same("back over two", 111, x.fieldIn(0, 1, 0));
        due.same("back over one", 1111, x.fieldIn(0, 2, 1));
        Told.goBack(x);
        x.change('o', true, true, 9);
        due.same("carried back over two", "111", fieldsOf(x, 0));
        due.same("shape", 1, x.shape(0));
    }

    private void carriedByFrames() {
        SwapWhile x = filled(1);
        Told.replace(x, 1, "k 1 0", "g 2 1 1", "k 3 50", "p 3 0 1", "w");
        x.setFields(0, 2);
        x.setCarry(0, false, 1, 0, 5);
        x.publish();
        Told.replace(x, 2, "k 1 0", "p 0 1 1", "w");
        x.setCarry(0, false, 0, 0, 7);
        x.publish();
        Told.go(x);
        x.start(1, 1);
        due.same("shape ahead of a use", 1, x.shape(0));
        x.step(1, 2);
        due.same("shape behind getting", 2, x.shape(0));
        due.same("what was got", 6, x.local(1, 0, 2));
        x.step(1, 2);
        due.same("what was put", "506", fieldsOf(x, 0));
        Told.go(x);
        due.same("shape ahead of a use", 2, x.shape(0));
        x.start(2, 2);
        x.step(2, 2);
        due.same("shape behind putting", 3, x.shape(0));
        due.same("carried first, put then", "570", fieldsOf(x, 0));
    }

    private void carriedByOldFrames() {
        SwapWhile x = new SwapWhile();
        Told.add(x, 0, "n 1 0", "w", "g 2 0 1", "w");
        Told.publishAndGo(x);
        x.setCarry(0, false, 0, 0, 3);
        x.setCarry(0, true, 0, 0, 4);
        x.publish();
        x.start(0, 0);
        x.step(0, 2);
        x.change('o', false, true, 9);
        due.same("shape", 2, x.shape(0));
        x.release(0);
        x.step(0, 1);
        due.same("back by a frame of the version before", 1, x.shape(0));
        due.same("what was got", 7, x.local(0, 0, 2));
        due.same("as it is kept", 7, x.field(0, 0));
    }

    /** Promise 27. */
    private void fieldsInVersions() {
        SwapWhile x = filled(2);
        x.setFields(0, 3);
        x.setCarry(0, false, 2, 1, 40);
        x.publish();
        x.setFields(0, 1);
        x.setCarry(0, false, 0, 2, 0);
        x.publish();
        due.same("in its own", 2, x.fieldIn(0, 1, 1));
        due.same("in the next", 42, x.fieldIn(0, 2, 2));
        due.same("in the one behind", 42, x.fieldIn(0, 3, 0));
        due.same("in the one before", 1, x.fieldIn(0, 0, 0));
        due.same("it is left as it is", "12", fieldsOf(x, 0));
        due.same("its shape too", 1, x.shape(0));
        due.same("present", 1, x.present());
    }

    private void fieldInRefuses() {
        SwapWhile x = filled(2);
        x.setFields(0, 4);
        x.publish();
        due.same("the last field", 0, x.fieldIn(0, 2, 3));
        due.fails("no field in the version 0", INDEX, () -> x.fieldIn(0, 0, 1));
        due.fails("no field in its own", INDEX, () -> x.fieldIn(0, 1, 2));
        due.fails("no field in the next", INDEX, () -> x.fieldIn(0, 2, 4));
        due.fails("the draft is no version", INDEX, () -> x.fieldIn(0, 3, 0));
        due.fails("no object", INDEX, () -> x.fieldIn(1, 0, 0));
        for (int far : FAR) {
            due.fails("no object", INDEX, () -> x.fieldIn(far, 0, 0));
            due.fails("no version", INDEX, () -> x.fieldIn(0, far, 0));
            due.fails("no field", INDEX, () -> x.fieldIn(0, 0, far));
        }
    }

    /** Promise 28. */
    private void entries() {
        SwapWhile x = Told.machine("s 0 1", "s 1 2", "s 2 3", "s 3 4", "s 0 0");
        x.start(0, 0);
        x.step(0, 4);
        for (int i = 0; i < 4; i++) {
            due.same("entry", i + 1, x.entry(i));
        }
        x.step(0, 1);
        due.same("entry", 0, x.entry(0));
        for (int far : new int[] {-1, 4, 5, Integer.MIN_VALUE, Integer.MAX_VALUE}) {
            due.fails("no entry", INDEX, () -> x.entry(far));
        }
    }

    /** Promises 29 to 31. */
    private void putsCounted() {
        SwapWhile x = Told.machine("k 0 -5", "o 0", "w", "o 0", "o 1");
        due.fails("no amount", INDEX, () -> x.putAt(0));
        due.fails("in no version", INDEX, () -> x.putIn(0));
        x.publish();
        x.start(0, 0);
        x.step(0, 9);
        due.same("puts", 1, x.puts());
        Told.go(x);
        x.release(0);
        x.step(0, 9);
        x.start(1, 0);
        x.step(1, 2);
        due.same("puts", 4, x.puts());
        due.same("amounts", "-5-50-5", "" + x.putAt(0) + x.putAt(1) + x.putAt(2) + x.putAt(3));
        due.same("versions of the frames", "1112", "" + x.putIn(0) + x.putIn(1) + x.putIn(2) + x.putIn(3));
        for (int far : new int[] {-1, 4, 5, 16, Integer.MIN_VALUE, Integer.MAX_VALUE}) {
            due.fails("no amount", INDEX, () -> x.putAt(far));
            due.fails("in no version", INDEX, () -> x.putIn(far));
        }
    }

    private void putsMany() {
        SwapWhile x = Told.machine("k 0 1", "a 1 0", "o 1", "j 0 1");
        x.start(0, 0);
        int steps = 0;
        for (int i = 0; i < 400; i++) {
            steps += x.step(0, 99);
        }
        due.same("steps", (long) steps, x.steps());
        due.same("steps", 39600, steps);
        due.same("puts", 13200, x.puts());
        for (int i = 0; i < x.puts(); i++) {
            due.same("amount", i + 1, x.putAt(i));
            due.same("in", 1, x.putIn(i));
        }
    }

    /** Promise 32. */
    private void stepsCounted() {
        SwapWhile x = Told.machine("c 1 0 0", "w", "g 0 0 0");
        due.same("steps", 0L, x.steps());
        x.start(0, 0);
        x.start(1, 0);
        due.same("steps", 0L, x.steps());
        x.step(0, 1);
        due.same("steps", 1L, x.steps());
        x.step(1, 2);
        due.same("steps with an end", 3L, x.steps());
        x.step(0, 9);
        due.same("steps with a wait", 5L, x.steps());
        x.release(0);
        x.step(0, 9);
        due.same("steps with one that fails", 6L, x.steps());
    }

    /** Promise 33. */
    private void share() {
        SwapWhile x = Told.machine("n 0 0", "n 0 0", "n 0 0", "w", "k 1 0", "g 0 0 1", "w");
        due.fails("no objects", ARITHMETIC, x::carriedShare);
        x.publish();
        x.start(0, 0);
        x.step(0, 9);
        due.same("share", 1.0f, x.carriedShare());
        Told.go(x);
        due.same("share", 0.0f, x.carriedShare());
        x.start(1, 0);
        x.step(1, 1);
        due.same("share", 1.0f / 4.0f, x.carriedShare());
        x.step(1, 3);
        due.same("share", 0.5f, x.carriedShare());
        x.release(0);
        x.step(0, 9);
        x.release(1);
        x.step(1, 2);
        due.same("share", 4.0f / 6.0f, x.carriedShare());
        Told.goBack(x);
        due.same("share", 2.0f / 6.0f, x.carriedShare());
        x.change('o', false, true, 9);
        due.same("share", 1.0f, x.carriedShare());
    }

    /** Promise 34. */
    private void mean() {
        SwapWhile x = Told.machine("c 1 0 0", "w");
        Told.add(x, 1, "c 2 0 0");
        Told.add(x, 2, "w", "g 0 0 0");
        due.fails("no thread that is ready or waits", ARITHMETIC, x::meanFrames);
        Told.publishAndGo(x);
        x.start(0, 0);
        due.same("mean", 1.0, x.meanFrames());
        x.step(0, 1);
        due.same("mean", 2.0, x.meanFrames());
        x.start(1, 4);
        due.same("mean", 1.5, x.meanFrames());
        x.start(2, 1);
        due.same("mean", 4.0 / 3.0, x.meanFrames());
        x.step(0, 2);
        due.same("mean with one that waits", 5.0 / 3.0, x.meanFrames());
        x.step(1, 1);
        due.same("mean without one that is done", 2.0, x.meanFrames());
        x.release(0);
        x.step(0, 1);
        due.same("mean without one that failed", 1.0, x.meanFrames());
        x.step(2, 2);
        x.release(2);
        x.step(2, 1);
        due.fails("no thread that is ready or waits", ARITHMETIC, x::meanFrames);
    }
}
