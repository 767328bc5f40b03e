/** Promises 9 to 15: threads, frames, and what each instruction does. */
public final class ThreadTest {
    private static final Class<IllegalArgumentException> ARGUMENT = IllegalArgumentException.class;
    private static final Class<IllegalStateException> STATE = IllegalStateException.class;
    private static final Class<IndexOutOfBoundsException> INDEX = IndexOutOfBoundsException.class;
    private static final int[] NO_THREADS = {-1, 3, Integer.MIN_VALUE, Integer.MAX_VALUE};

    private final Due due = new Due("ThreadTest");

    public static void main(String[] args) {
        ThreadTest test = new ThreadTest();
        test.started();
        test.startedAgain();
        test.startRefuses();
        test.stepped();
        test.stepsOfThreadsThatAreNotReady();
        test.stepRefuses();
        test.released();
        test.states();
        test.framesCounted();
        test.places();
        test.locals();
        test.constantsAndSums();
        test.jumps();
        test.calls();
        test.callsOfThePresentVersion();
        test.resultOfAMovedCaller();
        test.tables();
        test.returns();
        test.tooManyFrames();
        test.objectsMade();
        test.objectsUsed();
        test.failsByObjects();
        test.failsByFieldsOfTheFrame();
        test.due.close();
    }

    /** Promise 9. */
    private void started() {
        SwapWhile x = new SwapWhile();
        due.same("start in version 0", 0, x.start(2, 4));
        due.same("state", 'r', x.state(2));
        due.same("at", 400, x.at(2, 0));
        for (int local = 0; local < 4; local++) {
            due.same("local", 0, x.local(2, 0, local));
        }
        due.same("states of others", "nn", "" + x.state(0) + x.state(1));
        Told.add(x, 1, "w");
        Told.publishAndGo(x);
        due.same("start in version 1", 1, x.start(0, 1));
        due.same("at", 1100, x.at(0, 0));
        due.same("steps", 0L, x.steps());
        due.same("a frame stays in its version", 400, x.at(2, 0));
    }

    private void startedAgain() {
        SwapWhile x = Told.machine("k 0 5", "k 3 6", "r 0");
        x.start(0, 0);
        x.step(0, 99);
        due.same("done", 'd', x.state(0));
        due.same("start again", 1, x.start(0, 0));
        due.same("locals are 0 again", 0, x.local(0, 0, 0) + x.local(0, 0, 3));
        due.same("place is 0 again", 1000, x.at(0, 0));
        due.same("frames", 1, x.frames(0));
        SwapWhile y = Told.machine("g 0 0 0");
        y.start(1, 0);
        y.step(1, 1);
        due.same("failed", 'f', y.state(1));
        due.same("start what failed", 1, y.start(1, 3));
        due.same("state", 'r', y.state(1));
        due.same("at", 1300, y.at(1, 0));
    }

    private void startRefuses() {
        SwapWhile x = Told.machine("w");
        for (int thread : NO_THREADS) {
            due.fails("start no thread", ARGUMENT, () -> x.start(thread, 0));
        }
        for (int function : new int[] {-1, 5, Integer.MIN_VALUE, Integer.MAX_VALUE}) {
            due.fails("start no function", ARGUMENT, () -> x.start(0, function));
        }
        x.start(0, 0);
        due.fails("start what is ready", STATE, () -> x.start(0, 1));
        due.fails("no function, of what is ready", ARGUMENT, () -> x.start(0, 5));
        x.step(0, 1);
        due.fails("start what waits", STATE, () -> x.start(0, 1));
        due.same("it is as it was", 1001, x.at(0, 0));
        due.same("start of another", 1, x.start(1, 1));
    }

    /** Promise 10. */
    private void stepped() {
        SwapWhile x = Told.machine("k 0 1", "j 0 0");
        x.start(0, 0);
        x.start(1, 0);
        due.same("steps", 1, x.step(0, 1));
        due.same("at", 1001, x.at(0, 0));
        due.same("steps", 99, x.step(0, 99));
        due.same("at", 1000, x.at(0, 0));
        due.same("another thread has not moved", 1000, x.at(1, 0));
        due.same("steps", 3, x.step(1, 3));
        due.same("at", 1001, x.at(1, 0));
        due.same("all steps", 103L, x.steps());
    }

    private void stepsOfThreadsThatAreNotReady() {
        SwapWhile x = Told.machine("k 0 1", "w", "k 0 2");
        due.same("steps of what was never started", 0, x.step(0, 5));
        x.start(0, 0);
        due.same("steps till it waits", 2, x.step(0, 5));
        due.same("steps of what waits", 0, x.step(0, 5));
        x.release(0);
        due.same("steps till it is done, with its end", 2, x.step(0, 5));
        due.same("steps of what is done", 0, x.step(0, 5));
        due.same("all steps", 4L, x.steps());
        SwapWhile y = Told.machine("k 0 1", "g 0 0 0", "w");
        y.start(0, 0);
        due.same("steps till it fails", 2, y.step(0, 5));
        due.same("steps of what failed", 0, y.step(0, 5));
        due.same("all steps", 2L, y.steps());
    }

    private void stepRefuses() {
        SwapWhile x = Told.machine("w");
        x.start(0, 0);
        for (int thread : NO_THREADS) {
            due.fails("step no thread", ARGUMENT, () -> x.step(thread, 1));
        }
        for (int steps : new int[] {0, -1, 100, Integer.MIN_VALUE, Integer.MAX_VALUE}) {
            due.fails("step so many", ARGUMENT, () -> x.step(0, steps));
            due.fails("step so many of what was never started", ARGUMENT, () -> x.step(1, steps));
        }
        due.same("nothing was stepped", 1000, x.at(0, 0));
        due.same("nothing was counted", 0L, x.steps());
    }

    /** Promise 11. */
    private void released() {
        SwapWhile x = Told.machine("c 1 0 1", "o 1");
        Told.replace(x, 1, "k 2 9", "w", "r 2");
        Told.publishAndGo(x);
        x.start(0, 0);
        due.fails("release what is ready", STATE, () -> x.release(0));
        due.same("steps", 3, x.step(0, 9));
        due.same("release", 2, x.release(0));
        due.same("state", 'r', x.state(0));
        due.same("goes on behind it", 2102, x.at(0, 1));
        due.fails("release again", STATE, () -> x.release(0));
        x.step(0, 99);
        due.same("put", 9, x.putAt(0));
        due.fails("release what is done", STATE, () -> x.release(0));
        due.fails("release what was never started", STATE, () -> x.release(1));
        for (int thread : NO_THREADS) {
            due.fails("release no thread", ARGUMENT, () -> x.release(thread));
        }
        SwapWhile y = Told.machine("w");
        y.start(2, 0);
        y.step(2, 1);
        due.same("release", 1, y.release(2));
        SwapWhile z = Told.machine("g 0 0 0");
        z.start(2, 0);
        z.step(2, 1);
        due.fails("release what failed", STATE, () -> z.release(2));
    }

    /** Promise 12. */
    private void states() {
        SwapWhile x = Told.machine("w", "k 0 1", "g 0 0 0");
        due.same("state", 'n', x.state(0));
        x.start(0, 0);
        due.same("state", 'r', x.state(0));
        x.step(0, 1);
        due.same("state", 'w', x.state(0));
        x.release(0);
        due.same("state", 'r', x.state(0));
        x.step(0, 2);
        due.same("state", 'f', x.state(0));
        x.start(1, 3);
        x.step(1, 1);
        due.same("state", 'd', x.state(1));
        due.same("state", 'n', x.state(2));
        for (int thread : NO_THREADS) {
            due.fails("state of no thread", ARGUMENT, () -> x.state(thread));
        }
    }

    /** Promise 13. */
    private void framesCounted() {
        SwapWhile x = Told.machine("c 1 0 0", "w");
        Told.replace(x, 1, "k 0 1");
        Told.publishAndGo(x);
        due.same("frames of what was never started", 0, x.frames(1));
        x.start(1, 0);
        due.same("frames", 1, x.frames(1));
        x.step(1, 1);
        due.same("frames of a call", 2, x.frames(1));
        x.step(1, 1);
        due.same("frames ahead of the end", 2, x.frames(1));
        x.step(1, 1);
        due.same("frames behind the end", 1, x.frames(1));
        x.step(1, 1);
        due.same("frames of what waits", 1, x.frames(1));
        x.release(1);
        x.step(1, 1);
        due.same("frames of what is done", 0, x.frames(1));
        for (int thread : NO_THREADS) {
            due.fails("frames of no thread", ARGUMENT, () -> x.frames(thread));
        }
        SwapWhile y = Told.machine("c 0 0 0");
        y.start(0, 0);
        y.step(0, 8);
        due.same("frames of what failed", 0, y.frames(0));
    }

    /** Promise 14. */
    private void places() {
        SwapWhile x = new SwapWhile();
        Told.add(x, 4, "c 3 0 0", "w");
        Told.add(x, 3, "j 0 9", "k 0 1", "j 0 10");
        x.publish();
        Told.publishAndGo(x);
        Told.go(x);
        x.start(2, 4);
        due.same("at", 2400, x.at(2, 0));
        x.step(2, 1);
        due.same("behind the call", 2401, x.at(2, 0));
        due.same("at the call's beginning", 2300, x.at(2, 1));
        x.step(2, 3);
        due.same("at a place beyond the last one", 2310, x.at(2, 1));
        for (int frame : new int[] {-1, 2, 8, Integer.MIN_VALUE, Integer.MAX_VALUE}) {
            due.fails("at no frame", INDEX, () -> x.at(2, frame));
        }
        for (int thread : NO_THREADS) {
            due.fails("at of no thread", ARGUMENT, () -> x.at(thread, 0));
            due.fails("at of no thread and no frame", ARGUMENT, () -> x.at(thread, -1));
        }
        due.fails("at of what was never started", INDEX, () -> x.at(0, 0));
        x.step(2, 1);
        due.fails("at of a frame that has ended", INDEX, () -> x.at(2, 1));
        x.step(2, 1);
        due.same("behind the wait", 2402, x.at(2, 0));
        x.release(2);
        x.step(2, 1);
        due.fails("at of what is done", INDEX, () -> x.at(2, 0));
    }

    /** Promise 15. */
    private void locals() {
        SwapWhile x = Told.machine("k 0 1", "k 1 2", "k 2 3", "k 3 4", "c 1 3 2", "w");
        Told.replace(x, 1, "k 2 7", "w", "r 2");
        Told.publishAndGo(x);
        x.start(0, 0);
        x.step(0, 99);
        tellsLocals(x, 0, 1, 2, 3, 4);
        tellsLocals(x, 1, 4, 0, 7, 0);
        x.release(0);
        x.step(0, 1);
        tellsLocals(x, 0, 1, 2, 7, 4);
        for (int local : new int[] {-1, 4, Integer.MIN_VALUE, Integer.MAX_VALUE}) {
            due.fails("no local", ARGUMENT, () -> x.local(0, 0, local));
            due.fails("no local of no frame", ARGUMENT, () -> x.local(0, 5, local));
        }
        for (int frame : new int[] {-1, 1, 8, Integer.MIN_VALUE, Integer.MAX_VALUE}) {
            due.fails("no frame", INDEX, () -> x.local(0, frame, 0));
        }
        for (int thread : NO_THREADS) {
            due.fails("no thread", ARGUMENT, () -> x.local(thread, 0, 0));
            due.fails("no thread and no frame", ARGUMENT, () -> x.local(thread, 9, 0));
        }
        due.fails("local of what was never started", INDEX, () -> x.local(1, 0, 0));
    }

    private void tellsLocals(SwapWhile x, int frame, int... want) {
        for (int local = 0; local < 4; local++) {
            due.same("local " + frame + " " + local, want[local], x.local(0, frame, local));
        }
    }

    private void constantsAndSums() {
        SwapWhile x = Told.machine("k 0 2147483647", "k 1 -7", "a 1 0", "a 0 0", "k 2 -2147483648", "a 2 2",
                "k 3 1", "a 3 2", "w");
        x.start(0, 0);
        x.step(0, 3);
        tellsLocals(x, 0, 2147483647, 2147483640, 0, 0);
        x.step(0, 99);
        tellsLocals(x, 0, -2, 2147483640, 0, 1);
    }

    private void jumps() {
        jumpsFrom(1, 1003);
        jumpsFrom(Integer.MAX_VALUE, 1003);
        jumpsFrom(0, 1002);
        jumpsFrom(-1, 1002);
        jumpsFrom(Integer.MIN_VALUE, 1002);
        SwapWhile x = Told.machine("k 0 1", "j 0 10", "w");
        x.start(0, 0);
        due.same("a jump beyond the end, and the end", 3, x.step(0, 99));
        due.same("state", 'd', x.state(0));
        SwapWhile y = Told.machine("k 0 1", "j 0 3", "w");
        y.start(0, 0);
        due.same("a jump behind the last one, and the end", 3, y.step(0, 99));
    }

    private void jumpsFrom(int number, int place) {
        SwapWhile x = Told.machine("k 2 " + number, "j 2 3", "w", "w");
        x.start(0, 0);
        x.step(0, 2);
        due.same("at behind a jump with " + number, place, x.at(0, 0));
    }

    private void calls() {
        SwapWhile x = new SwapWhile();
        Told.add(x, 0, "k 2 5", "k 3 8", "c 1 2 3", "o 3", "c 2 2 0", "o 0");
        Told.add(x, 1, "a 0 0", "r 0", "k 0 99");
        Told.add(x, 2, "k 0 99");
        Told.publishAndGo(x);
        x.start(0, 0);
        x.step(0, 3);
        due.same("the caller's local till it returns", 8, x.local(0, 0, 3));
        due.same("argument", 5, x.local(0, 1, 0));
        x.step(0, 3);
        due.same("what is returned", 10, x.putAt(0));
        due.same("the argument's local stays", 5, x.local(0, 0, 2));
        x.step(0, 99);
        due.same("what a function without a next instruction returns", 0, x.putAt(1));
        due.same("state", 'd', x.state(0));
    }

    private void callsOfThePresentVersion() {
        SwapWhile x = Told.machine("c 1 0 1", "o 1", "k 2 1", "j 2 0");
        Told.add(x, 1, "k 0 10", "r 0");
        Told.publishAndGo(x);
        x.start(0, 0);
        x.step(0, 1);
        Told.replace(x, 1, "k 0 20", "r 0");
        Told.publishAndGo(x);
        due.same("the frame runs on in its version", 2100, x.at(0, 1));
        x.step(0, 6);
        due.same("at", 3100, x.at(0, 1));
        due.same("the caller stays in its version", 2001, x.at(0, 0));
        x.step(0, 3);
        due.same("put", 10, x.putAt(0));
        due.same("put", 20, x.putAt(1));
        due.same("put in", 2, x.putIn(1));
    }

    private void resultOfAMovedCaller() {
        SwapWhile x = new SwapWhile();
        Told.add(x, 0, "c 1 0 3", "w");
        Told.add(x, 1, "w", "k 0 7", "r 0");
        Told.publishAndGo(x);
        Told.replace(x, 0, "w", "c 1 0 2", "w", "w");
        x.map(0, 1, 3);
        x.publish();
        x.start(0, 0);
        x.step(0, 2);
        x.change('m', false, false, 9);
        due.same("the caller is moved", 2003, x.at(0, 0));
        due.same("what it called is in the new version", 2101, x.at(0, 1));
        x.release(0);
        x.step(0, 2);
        due.same("the local of the call that was made", 7, x.local(0, 0, 3));
        due.same("not of the one in the new code", 0, x.local(0, 0, 2));
    }

    private void tables() {
        SwapWhile x = new SwapWhile();
        Told.add(x, 0, "k 1 5", "s 3 4", "t 3 1 2", "w");
        Told.add(x, 4, "a 0 0", "r 0");
        Told.add(x, 1, "t 3 0 0", "w");
        Told.publishAndGo(x);
        x.start(0, 0);
        x.step(0, 2);
        due.same("entries", "0004", "" + x.entry(0) + x.entry(1) + x.entry(2) + x.entry(3));
        x.step(0, 1);
        due.same("at", 1400, x.at(0, 1));
        due.same("argument", 5, x.local(0, 1, 0));
        x.step(0, 9);
        due.same("what it returned", 10, x.local(0, 0, 2));
        x.start(1, 1);
        x.step(1, 1);
        due.same("the table is one for all threads", 1400, x.at(1, 1));
        Told.publishAndGo(x);
        due.same("and for all versions", 4, x.entry(3));
        SwapWhile y = Told.machine("t 2 0 0");
        y.start(0, 0);
        y.step(0, 1);
        due.same("an entry at first", 1000, y.at(0, 1));
    }

    private void returns() {
        SwapWhile x = Told.machine("k 3 5", "r 3", "o 3");
        x.start(0, 0);
        due.same("steps till the first function returns", 2, x.step(0, 99));
        due.same("state", 'd', x.state(0));
        due.same("puts", 0, x.puts());
    }

    private void tooManyFrames() {
        SwapWhile x = Told.machine("c 0 0 0");
        x.start(0, 0);
        x.start(1, 0);
        x.step(0, 7);
        due.same("frames", 8, x.frames(0));
        due.same("state", 'r', x.state(0));
        due.same("another thread's frames are its own", 7, x.step(1, 7));
        due.same("frames", 8, x.frames(1));
        due.same("the step that fails", 1, x.step(0, 9));
        due.same("state", 'f', x.state(0));
        due.same("frames", 0, x.frames(0));
        due.same("another thread", 'r', x.state(1));
        SwapWhile y = Told.machine("t 0 0 0");
        y.start(0, 0);
        due.same("steps by the table", 8, y.step(0, 99));
        due.same("state", 'f', y.state(0));
    }

    private void objectsMade() {
        SwapWhile x = Told.machine("n 1 2", "n 3 0", "w", "n 0 1", "k 2 1", "j 2 3");
        x.start(0, 0);
        x.step(0, 3);
        due.same("objects", 2, x.objects());
        tellsLocals(x, 0, 0, 0, 0, 1);
        x.release(0);
        x.step(0, 28 * 3 - 2);
        due.same("objects", 30, x.objects());
        due.same("the last one's number", 29, x.local(0, 0, 0));
        due.same("till it fails", 3, x.step(0, 99));
        due.same("state", 'f', x.state(0));
        due.same("objects", 30, x.objects());
    }

    private void objectsUsed() {
        SwapWhile x = new SwapWhile();
        x.setFields(0, 2);
        x.setFields(2, 4);
        Told.add(x, 0, "n 1 2", "k 0 5", "p 0 23 1", "k 0 6", "p 0 20 1", "g 2 23 1", "g 3 21 1", "w");
        Told.publishAndGo(x);
        x.start(0, 0);
        x.step(0, 99);
        tellsLocals(x, 0, 6, 0, 5, 0);
        due.same("fields", "6005", "" + x.field(0, 0) + x.field(0, 1) + x.field(0, 2) + x.field(0, 3));
    }

    private void failsByObjects() {
        fails("no object", "g 0 0 0");
        fails("no object to put in", "p 0 0 0");
        fails("a number below", "n 1 0", "k 2 -1", "g 0 0 2");
        fails("a number beyond", "n 1 0", "k 2 1", "g 0 0 2");
        fails("a number far beyond", "n 1 0", "k 2 2147483647", "p 0 0 2");
        fails("a number far below", "n 1 0", "k 2 -2147483648", "p 0 0 2");
        fails("another kind", "n 0 0", "g 0 10 0");
        fails("another kind to put in", "n 0 2", "p 0 10 0");
        fails("no such field", "n 0 0", "g 0 1 0");
        fails("no such field to put in", "n 0 0", "p 0 3 0");
    }

    private void fails(String what, String... instructions) {
        SwapWhile x = Told.machine(instructions);
        x.start(0, 0);
        due.same(what + ", steps", instructions.length, x.step(0, 99));
        due.same(what, 'f', x.state(0));
        due.same(what + ", frames", 0, x.frames(0));
        due.same(what + ", all steps", (long) instructions.length, x.steps());
        if (x.objects() > 0) {
            due.same(what + ", the object's field", 0, x.field(0, 0));
        }
    }

    private void failsByFieldsOfTheFrame() {
        SwapWhile x = new SwapWhile();
        x.setFields(0, 2);
        Told.add(x, 0, "n 0 0", "k 1 4", "p 1 1 0", "w", "g 2 1 0", "w");
        Told.add(x, 1, "g 1 1 0", "w");
        Told.publishAndGo(x);
        x.setFields(0, 1);
        Told.publishAndGo(x);
        Told.goBack(x);
        x.start(0, 0);
        x.step(0, 4);
        Told.go(x);
        x.start(1, 1);
        due.same("fails by the version of the frame", 1, x.step(1, 9));
        due.same("state", 'f', x.state(1));
        due.same("looked at ahead of carrying", 1, x.shape(0));
        x.release(0);
        due.same("an older frame has the field", 2, x.step(0, 9));
        due.same("state", 'w', x.state(0));
        due.same("local", 4, x.local(0, 0, 2));
    }
}
