/** Promises 1 to 8: a new object, and drafts. */
public final class DraftTest {
    private static final Class<IllegalArgumentException> ARGUMENT = IllegalArgumentException.class;
    private static final Class<IllegalStateException> STATE = IllegalStateException.class;
    private static final Class<IndexOutOfBoundsException> INDEX = IndexOutOfBoundsException.class;
    private static final int[] FAR = {Integer.MIN_VALUE, -1000, -2, 99, 1000, Integer.MAX_VALUE};

    private final Due due = new Due("DraftTest");

    public static void main(String[] args) {
        DraftTest test = new DraftTest();
        test.newMachine();
        test.addCounts();
        test.addTakesWhatIsInRange();
        test.addRefusesWhatIsOutOfRange();
        test.addLooksAtNumbersAheadOfFullness();
        test.emptied();
        test.draftBeginsAsTheVersionAhead();
        test.fieldsSet();
        test.fieldsSetForgetsCarries();
        test.carrySet();
        test.carrySetByShapes();
        test.mapped();
        test.mappedByNumbersNow();
        test.published();
        test.publishedMappings();
        test.touched();
        test.touchedByMeaningAlone();
        test.touchedByNothingBeyondTheEnd();
        test.touchedByKinds();
        test.touchedRefuses();
        test.due.close();
    }

    /** Promise 1. */
    private void newMachine() {
        SwapWhile x = new SwapWhile();
        due.same("present", 0, x.present());
        due.same("versions", 1, x.versions());
        due.same("queued", 0, x.queued());
        due.same("watched", false, x.isWatched());
        due.same("objects", 0, x.objects());
        due.same("puts", 0, x.puts());
        due.same("steps", 0L, x.steps());
        for (int i = 0; i < 5; i++) {
            due.same("instructions of " + i, 0, x.empty(i));
        }
        for (int i = 0; i < 3; i++) {
            due.same("state of " + i, 'n', x.state(i));
            due.same("frames of " + i, 0, x.frames(i));
            due.same("fields of " + i, 1, x.setFields(i, 1));
        }
        for (int i = 0; i < 4; i++) {
            due.same("entry " + i, 0, x.entry(i));
        }
    }

    /** Promise 2. */
    private void addCounts() {
        SwapWhile x = new SwapWhile();
        for (int function = 0; function < 5; function++) {
            for (int i = 1; i <= 10; i++) {
                due.same("add " + i, i, x.add(function, 'w', 0, 0, 0));
            }
            int full = function;
            due.fails("add 11", STATE, () -> x.add(full, 'w', 0, 0, 0));
            due.same("instructions", 10, x.empty(function));
            due.same("add to an emptied one", 1, x.add(function, 'w', 0, 0, 0));
        }
    }

    private void addTakesWhatIsInRange() {
        takes('k', 0, 3, Integer.MIN_VALUE, Integer.MAX_VALUE, 9, 9);
        takes('a', 0, 3, 0, 3, -9, 9);
        takes('n', 0, 3, 0, 2, -9, 9);
        takes('j', 0, 3, 0, 10, -9, 9);
        takes('c', 0, 4, 0, 3, 0, 3);
        takes('t', 0, 3, 0, 3, 0, 3);
        takes('s', 0, 3, 0, 4, -9, 9);
        takes('r', 0, 3, -9, 9, -9, 9);
        takes('o', 0, 3, -9, 9, -9, 9);
        takes('w', -9, 9, -9, 9, -9, 9);
        for (int kind = 0; kind < 3; kind++) {
            takes('g', 0, 3, 10 * kind, 10 * kind + 3, 0, 3);
            takes('p', 0, 3, 10 * kind, 10 * kind + 3, 0, 3);
        }
    }

    private void takes(char kind, int lowA, int highA, int lowB, int highB, int lowC, int highC) {
        int[] as = {lowA, highA};
        int[] bs = {lowB, highB};
        int[] cs = {lowC, highC};
        SwapWhile x = new SwapWhile();
        int count = 0;
        for (int a : as) {
            for (int b : bs) {
                for (int c : cs) {
                    count++;
                    due.same("add " + kind + " " + a + " " + b + " " + c, count, x.add(2, kind, a, b, c));
                }
            }
        }
    }

    private void addRefusesWhatIsOutOfRange() {
        for (char kind : "kangpjctsrow".toCharArray()) {
            refuses(-1, kind, 0, 0, 0);
            refuses(5, kind, 0, 0, 0);
            due.same("add " + kind, 1, new SwapWhile().add(4, kind, 0, 0, 0));
        }
        for (char kind = 0; kind < 300; kind++) {
            if ("kangpjctsrow".indexOf(kind) < 0) {
                refuses(0, kind, 0, 0, 0);
            }
        }
        refuses(0, (char) ('k' + 256), 0, 0, 0);
        refuses(0, (char) 65535, 0, 0, 0);
        for (char kind : "kangpjro".toCharArray()) {
            refusesFirst(kind, -1, 4);
        }
        refusesFirst('c', -1, 5);
        refusesFirst('t', -1, 4);
        refusesFirst('s', -1, 4);
        refusesSecond("act", -1, 4);
        refusesSecond("n", -1, 3);
        refusesSecond("j", -1, 11);
        refusesSecond("s", -1, 5);
        refusesSecond("gp", -1, 4, 5, 9, 14, 19, 24, 29, 30, 33, 100, -10, -20, -3);
        for (char kind : "gpct".toCharArray()) {
            refuses(0, kind, 0, 0, -1);
            refuses(0, kind, 0, 0, 4);
            for (int far : FAR) {
                refuses(0, kind, 0, 0, far);
            }
        }
    }

    private void refusesFirst(char kind, int... numbers) {
        for (int number : numbers) {
            refuses(0, kind, number, 0, 0);
        }
        for (int far : FAR) {
            refuses(0, kind, far, 0, 0);
        }
    }

    private void refusesSecond(String kinds, int... numbers) {
        for (char kind : kinds.toCharArray()) {
            for (int number : numbers) {
                refuses(0, kind, 0, number, 0);
            }
            for (int far : FAR) {
                refuses(0, kind, 0, far, 0);
            }
        }
    }

    private void refuses(int function, char kind, int a, int b, int c) {
        SwapWhile x = new SwapWhile();
        due.fails("add " + function + " " + kind + " " + a + " " + b + " " + c, ARGUMENT,
                () -> x.add(function, kind, a, b, c));
        for (int i = 0; i < 5; i++) {
            due.same("instructions behind a refusal", 0, x.empty(i));
        }
    }

    private void addLooksAtNumbersAheadOfFullness() {
        SwapWhile x = new SwapWhile();
        for (int i = 0; i < 10; i++) {
            x.add(1, 'w', 0, 0, 0);
        }
        due.fails("add of no kind to a full one", ARGUMENT, () -> x.add(1, 'z', 0, 0, 0));
        due.fails("add of no local to a full one", ARGUMENT, () -> x.add(1, 'r', 4, 0, 0));
        due.fails("add to a full one", STATE, () -> x.add(1, 'r', 3, 0, 0));
        due.same("add to another", 1, x.add(2, 'r', 3, 0, 0));
    }

    /** Promise 3. */
    private void emptied() {
        SwapWhile x = new SwapWhile();
        Told.add(x, 3, "k 0 1", "o 0");
        Told.add(x, 4, "w");
        due.same("empty", 2, x.empty(3));
        due.same("empty again", 0, x.empty(3));
        due.same("empty of another", 1, x.empty(4));
        due.fails("empty -1", ARGUMENT, () -> x.empty(-1));
        due.fails("empty 5", ARGUMENT, () -> x.empty(5));
        due.fails("empty far", ARGUMENT, () -> x.empty(Integer.MIN_VALUE));
    }

    private void draftBeginsAsTheVersionAhead() {
        SwapWhile x = new SwapWhile();
        Told.add(x, 0, "k 0 5", "o 0");
        x.setFields(1, 3);
        x.publish();
        due.same("add on top", 3, x.add(0, 'o', 0, 0, 0));
        due.same("fields on top", 3, x.setFields(1, 2));
        Told.go(x);
        x.start(0, 0);
        due.same("steps of the version, not of the draft", 3, x.step(0, 99));
        due.same("puts", 1, x.puts());
        x.publish();
        Told.go(x);
        x.start(0, 0);
        due.same("steps of the next version", 4, x.step(0, 99));
        due.same("puts", 3, x.puts());
    }

    /** Promise 4. */
    private void fieldsSet() {
        SwapWhile x = new SwapWhile();
        due.same("fields before", 1, x.setFields(0, 4));
        due.same("fields before", 4, x.setFields(0, 2));
        due.same("fields before", 2, x.setFields(0, 1));
        due.same("fields of another", 1, x.setFields(2, 3));
        due.fails("no kind", ARGUMENT, () -> x.setFields(-1, 2));
        due.fails("no kind", ARGUMENT, () -> x.setFields(3, 2));
        due.fails("no field", ARGUMENT, () -> x.setFields(0, 0));
        due.fails("too many", ARGUMENT, () -> x.setFields(0, 5));
        due.fails("far", ARGUMENT, () -> x.setFields(0, Integer.MAX_VALUE));
        due.fails("below", ARGUMENT, () -> x.setFields(0, Integer.MIN_VALUE));
        due.same("fields behind refusals", 1, x.setFields(0, 1));
        due.same("fields behind refusals", 3, x.setFields(2, 1));
    }

    private void fieldsSetForgetsCarries() {
        SwapWhile x = new SwapWhile();
        x.setFields(0, 2);
        x.publish();
        x.setCarry(0, false, 0, 1, 7);
        x.setCarry(0, true, 1, 0, 8);
        x.setCarry(1, false, 0, -1, 9);
        due.same("the same number", 2, x.setFields(0, 2));
        due.same("forward as at first", 0, x.setCarry(0, false, 0, 0, 0));
        due.same("back as at first", 1, x.setCarry(0, true, 1, 1, 0));
        due.same("of another kind as told", -1, x.setCarry(1, false, 0, -1, 9));
        x.setFields(0, 3);
        due.same("a field that the old shape has", 1, x.setCarry(0, false, 1, 1, 0));
        due.same("a field that it has not", -1, x.setCarry(0, false, 2, -1, 0));
        x.setFields(0, 1);
        due.same("back, a field that the new shape has", 0, x.setCarry(0, true, 0, 0, 0));
        due.same("back, a field that it has not", -1, x.setCarry(0, true, 1, -1, 0));
        x.setCarry(0, true, 0, 0, 5);
        x.setFields(0, 2);
        SwapWhile y = withObject(x);
        due.same("numbers are 0 again", 0, y.fieldIn(0, 1, 0));
    }

    /** Goes to the version 2, where an object of kind 0 is made, and stays there. */
    private SwapWhile withObject(SwapWhile x) {
        Told.replace(x, 0, "n 0 0", "w");
        Told.publishAndGo(x);
        Told.go(x);
        x.start(0, 0);
        x.step(0, 2);
        due.same("shape", x.present(), x.shape(0));
        return x;
    }

    /** Promise 5. */
    private void carrySet() {
        SwapWhile x = new SwapWhile();
        due.same("from before", 0, x.setCarry(2, false, 0, -1, 4));
        due.same("from before", -1, x.setCarry(2, false, 0, 0, 4));
        due.same("from before", 0, x.setCarry(2, false, 0, 0, 4));
        due.same("back from before", 0, x.setCarry(2, true, 0, -1, 4));
        due.same("back from before", -1, x.setCarry(2, true, 0, -1, 4));
        for (int kind : new int[] {-1, 3, Integer.MIN_VALUE, Integer.MAX_VALUE}) {
            due.fails("no kind", ARGUMENT, () -> x.setCarry(kind, false, 0, 0, 0));
        }
        for (int field : new int[] {-1, 1, 4, Integer.MIN_VALUE, Integer.MAX_VALUE}) {
            due.fails("no field", ARGUMENT, () -> x.setCarry(2, false, field, 0, 0));
            due.fails("no field back", ARGUMENT, () -> x.setCarry(2, true, field, 0, 0));
        }
        for (int from : new int[] {-2, 1, 4, Integer.MIN_VALUE, Integer.MAX_VALUE}) {
            due.fails("no field to come from", ARGUMENT, () -> x.setCarry(2, false, 0, from, 0));
            due.fails("no field to come from, back", ARGUMENT, () -> x.setCarry(2, true, 0, from, 0));
        }
        due.same("behind refusals", 0, x.setCarry(2, false, 0, 0, 0));
        due.same("behind refusals", -1, x.setCarry(2, true, 0, 0, 0));
        x.publish();
        due.same("a draft begins as at first", 0, x.setCarry(2, true, 0, 0, 0));
        for (int kind = 0; kind < 3; kind++) {
            x.setFields(kind, 4);
        }
        x.publish();
        for (int kind = 0; kind < 3; kind++) {
            for (int field = 0; field < 4; field++) {
                due.same("forward at first", field, x.setCarry(kind, false, field, -1, 0));
                due.same("back at first", field, x.setCarry(kind, true, field, -1, 0));
            }
        }
    }

    private void carrySetByShapes() {
        SwapWhile x = new SwapWhile();
        x.setFields(0, 3);
        x.publish();
        x.setFields(0, 2);
        due.same("forward, the last field from the last", 1, x.setCarry(0, false, 1, 2, 0));
        due.fails("forward, a field beyond the new shape", ARGUMENT, () -> x.setCarry(0, false, 2, 0, 0));
        due.fails("forward, from beyond the old shape", ARGUMENT, () -> x.setCarry(0, false, 1, 3, 0));
        due.same("back, the last field from the last", -1, x.setCarry(0, true, 2, 1, 0));
        due.fails("back, a field beyond the old shape", ARGUMENT, () -> x.setCarry(0, true, 3, 0, 0));
        due.fails("back, from beyond the new shape", ARGUMENT, () -> x.setCarry(0, true, 2, 2, 0));
    }

    /** Promise 6. */
    private void mapped() {
        SwapWhile x = new SwapWhile();
        Told.add(x, 1, "w", "w");
        x.publish();
        due.same("map", 1, x.map(1, 0, 2));
        due.same("map in place of an earlier", 1, x.map(1, 0, 1));
        due.same("map another to the same", 2, x.map(1, 2, 1));
        due.same("map of another function", 1, x.map(0, 0, 0));
        due.same("unmap", 1, x.map(1, 0, -1));
        due.same("unmap what is not mapped", 1, x.map(1, 0, -1));
        due.same("unmap the last", 0, x.map(1, 2, -1));
        due.fails("no function", ARGUMENT, () -> x.map(-1, 0, 0));
        due.fails("no function", ARGUMENT, () -> x.map(5, 0, 0));
        for (int place : new int[] {-1, 3, 10, 11, Integer.MIN_VALUE, Integer.MAX_VALUE}) {
            due.fails("no place ahead", ARGUMENT, () -> x.map(1, place, 0));
            due.fails("no place ahead", ARGUMENT, () -> x.map(1, place, -1));
        }
        for (int to : new int[] {-2, 3, 10, 11, Integer.MIN_VALUE, Integer.MAX_VALUE}) {
            due.fails("no place in the draft", ARGUMENT, () -> x.map(1, 0, to));
        }
        due.same("behind refusals", 1, x.map(1, 1, 0));
    }

    private void mappedByNumbersNow() {
        SwapWhile x = new SwapWhile();
        due.fails("a place that was not published", ARGUMENT, () -> {
            Told.add(x, 0, "w");
            return x.map(0, 1, 0);
        });
        due.same("to a place of the draft", 1, x.map(0, 0, 1));
        x.empty(0);
        due.fails("to a place that is gone", ARGUMENT, () -> x.map(0, 0, 1));
        Told.add(x, 0, "w", "w", "w", "w", "w", "w", "w", "w", "w", "w");
        due.same("to the last place of all", 1, x.map(0, 0, 10));
        x.publish();
        due.same("from the last place of all", 1, x.map(0, 10, 10));
        x.empty(0);
        due.same("mappings stay till it is published", 2, x.map(0, 9, 0));
    }

    /** Promise 7. */
    private void published() {
        SwapWhile x = new SwapWhile();
        for (int i = 1; i <= 5; i++) {
            due.same("publish", i, x.publish());
            due.same("versions", i + 1, x.versions());
            due.same("present", 0, x.present());
        }
        x.add(0, 'w', 0, 0, 0);
        due.fails("publish a seventh", STATE, x::publish);
        due.same("versions", 6, x.versions());
        due.same("the draft stays", 2, x.add(0, 'w', 0, 0, 0));
    }

    private void publishedMappings() {
        SwapWhile x = Told.machine("k 0 1", "w", "k 0 2", "w");
        Told.replace(x, 0, "k 0 3", "w", "o 0", "w");
        x.map(0, 0, 4);
        x.map(0, 2, 3);
        x.map(0, 4, 2);
        Told.replace(x, 0, "k 0 3", "w");
        x.publish();
        due.same("a new draft has no mappings", 1, x.map(0, 1, 0));
        x.start(0, 0);
        x.change('m', false, false, 200);
        due.same("mapped beyond the number of instructions", 1, x.against());
        x.step(0, 2);
        due.same("mapped beyond it, at another place", 1, x.against());
        x.release(0);
        x.step(0, 1);
        due.same("at a place that was never mapped", 1, x.against());
        x.step(0, 1);
        due.same("mapped to the number of instructions", 2002, x.at(0, 0));
        due.same("present", 2, x.present());
    }

    /** Promise 8. */
    private void touched() {
        SwapWhile x = new SwapWhile();
        Told.add(x, 0, "k 0 1", "o 0");
        Told.add(x, 1, "k 0 1", "o 0");
        Told.add(x, 2, "k 0 1", "o 0");
        Told.add(x, 3, "a 0 1", "c 1 2 3");
        x.publish();
        Told.replace(x, 0, "k 0 2", "o 0");
        Told.replace(x, 1, "o 0", "k 0 1");
        Told.replace(x, 2, "k 0 1", "o 0");
        Told.replace(x, 3, "a 0 1", "c 1 2 2");
        x.publish();
        Told.replace(x, 0, "k 0 2");
        Told.replace(x, 1, "o 0", "k 0 1", "w");
        Told.replace(x, 2, "k 0 1", "r 0");
        Told.replace(x, 3, "a 1 1", "c 1 2 2");
        x.publish();
        x.publish();
        tellsTouched(x, 0, true, true, true, true, false);
        tellsTouched(x, 1, true, true, false, true, false);
        tellsTouched(x, 2, true, true, true, true, false);
        tellsTouched(x, 3, false, false, false, false, false);
    }

    private void touchedByMeaningAlone() {
        SwapWhile x = new SwapWhile();
        Told.add(x, 0, "k 0 1 5", "a 1 1 5", "n 1 1 5", "j 1 1 5", "s 1 1 5");
        Told.add(x, 1, "r 1 5 5", "o 1 5 5", "w 5 5 5");
        x.publish();
        Told.replace(x, 0, "k 0 1 6", "a 1 1 6", "n 1 1 6", "j 1 1 6", "s 1 1 6");
        Told.replace(x, 1, "r 1 6 7", "o 1 6 7", "w 6 7 8");
        x.publish();
        tellsTouched(x, 1, false, false);
        String[] told = {"k 0 1", "a 0 1", "n 0 1", "g 0 1 2", "p 0 1 2", "j 0 1", "c 0 1 2", "t 0 1 2", "s 0 1",
            "r 0", "o 0", "w"};
        String[] others = {"k 1 1", "k 0 2", "a 1 1", "a 0 2", "n 1 1", "n 0 2", "g 1 1 2", "g 0 2 2", "g 0 1 3",
            "p 1 1 2", "p 0 2 2", "p 0 1 3", "j 1 1", "j 0 2", "c 1 1 2", "c 0 2 2", "c 0 1 3", "t 1 1 2",
            "t 0 2 2", "t 0 1 3", "s 1 1", "s 0 2", "r 1", "o 1", "w"};
        for (String one : told) {
            for (String other : others) {
                touches(one, one, false);
                touches(one, other, !one.equals(other));
            }
        }
    }

    private void touches(String one, String other, boolean want) {
        SwapWhile x = Told.machine("w", one, "w");
        Told.replace(x, 0, "w", other, "w");
        x.publish();
        due.same("touched by " + one + " and " + other, want, x.isTouched(1, 0));
    }

    private void touchedByNothingBeyondTheEnd() {
        SwapWhile x = new SwapWhile();
        Told.add(x, 0, "k 0 1", "o 0");
        Told.add(x, 1, "w", "n 0 1");
        x.publish();
        Told.replace(x, 0, "k 0 1");
        Told.replace(x, 1, "w");
        x.publish();
        Told.replace(x, 0, "k 0 1", "r 0");
        Told.replace(x, 0, "k 0 1");
        x.setFields(1, 2);
        x.publish();
        tellsTouched(x, 1, true, true);
        tellsTouched(x, 2, false, false);
    }

    private void tellsTouched(SwapWhile x, int version, boolean... want) {
        for (int function = 0; function < want.length; function++) {
            due.same("touched " + version + " " + function, want[function], x.isTouched(version, function));
        }
    }

    private void touchedByKinds() {
        SwapWhile x = new SwapWhile();
        Told.add(x, 0, "w", "n 1 1");
        Told.add(x, 1, "w", "g 0 10 0");
        Told.add(x, 2, "p 2 13 0", "w");
        Told.add(x, 3, "n 1 0", "g 0 20 0", "p 0 3 0");
        Told.add(x, 4, "k 1 1", "a 1 1", "j 1 1", "c 1 1 1", "t 1 1 1", "s 1 1", "r 1", "o 1");
        x.publish();
        x.setFields(1, 2);
        x.publish();
        x.setFields(1, 3);
        x.setFields(1, 2);
        x.setCarry(1, false, 0, 1, 5);
        x.publish();
        x.setFields(0, 2);
        x.publish();
        x.setFields(2, 2);
        x.publish();
        tellsTouched(x, 1, true, true, true, false, false);
        tellsTouched(x, 2, false, false, false, false, false);
        tellsTouched(x, 3, false, false, false, true, false);
        tellsTouched(x, 4, false, false, false, true, false);
    }

    private void touchedRefuses() {
        SwapWhile x = new SwapWhile();
        due.fails("no next version", INDEX, () -> x.isTouched(0, 0));
        x.publish();
        due.same("touched", false, x.isTouched(0, 0));
        for (int version : new int[] {-1, 1, 2, 6, Integer.MIN_VALUE, Integer.MAX_VALUE}) {
            due.fails("no version", INDEX, () -> x.isTouched(version, 0));
            due.fails("no version and no function", INDEX, () -> x.isTouched(version, 5));
        }
        for (int function : new int[] {-1, 5, Integer.MIN_VALUE, Integer.MAX_VALUE}) {
            due.fails("no function", ARGUMENT, () -> x.isTouched(0, function));
        }
    }
}
