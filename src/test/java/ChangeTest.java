import java.util.NoSuchElementException;

/** Promises 16 to 23: changes, giving up, and the watch. */
public final class ChangeTest {
    private static final Class<IllegalArgumentException> ARGUMENT = IllegalArgumentException.class;
    private static final Class<IllegalStateException> STATE = IllegalStateException.class;
    private static final Class<IndexOutOfBoundsException> INDEX = IndexOutOfBoundsException.class;

    private final Due due = new Due("ChangeTest");

    public static void main(String[] args) {
        ChangeTest test = new ChangeTest();
        test.askedFor();
        test.changeRefuses();
        test.atMostThirty();
        test.stateOfChanges();
        test.droppedWithoutAVersion();
        test.waitsTillNoFrameIsTouched();
        test.waitsForFramesBelow();
        test.framesNotTouchedGoAlong();
        test.movesMappedFrames();
        test.movesOnlyAllTogether();
        test.movesBackToTheLowest();
        test.movesBackToTheFirst();
        test.movesFullThreads();
        test.leavesOldCode();
        test.framesOfOtherVersionsDoNotCount();
        test.framesLeftCountAgain();
        test.queueGoesOn();
        test.queueIsLookedAtBehindEachStep();
        test.failingFreesTheQueue();
        test.carriesAtOnce();
        test.countsAgainst();
        test.givesUp();
        test.givesUpBehindWhatTakesEffect();
        test.givesUpAnywhereInTheQueue();
        test.givesUpTogether();
        test.givesUpBySteps();
        test.watched();
        test.watchTakesBack();
        test.watchGoesAhead();
        test.watchInVersionZero();
        test.watchBeyondThirty();
        test.watchCountsAsAsked();
        test.due.close();
    }

    /** A machine in version 1 of 3; the version 2 has another function 0, and the thread 0 waits in it. */
    private SwapWhile blocked() {
        SwapWhile x = Told.machine("w", "k 1 1", "w", "k 1 2");
        Told.replace(x, 0, "w", "k 1 3", "w", "k 1 4", "w");
        x.publish();
        x.start(0, 0);
        x.step(0, 1);
        return x;
    }

    /** Promise 16. */
    private void askedFor() {
        SwapWhile x = new SwapWhile();
        x.publish();
        x.publish();
        x.publish();
        due.same("number", 0, x.change('w', false, false, 1));
        due.same("present", 1, x.present());
        due.same("number", 1, x.change('m', false, false, 200));
        due.same("present", 2, x.present());
        due.same("number", 2, x.change('o', false, true, 100));
        due.same("present", 3, x.present());
        due.same("number", 3, x.change('w', true, false, 1));
        due.same("present", 2, x.present());
        due.same("number", 4, x.change('m', true, false, 1));
        due.same("present", 1, x.present());
        due.same("number", 5, x.change('o', true, true, 1));
        due.same("present", 0, x.present());
    }

    private void changeRefuses() {
        SwapWhile x = new SwapWhile();
        x.publish();
        for (char mode = 0; mode < 300; mode++) {
            if (mode != 'w' && mode != 'm' && mode != 'o') {
                char none = mode;
                due.fails("no mode " + (int) mode, ARGUMENT, () -> x.change(none, false, false, 5));
            }
        }
        for (int patience : new int[] {0, -1, 201, Integer.MIN_VALUE, Integer.MAX_VALUE}) {
            due.fails("no patience", ARGUMENT, () -> x.change('o', false, false, patience));
        }
        due.same("present", 0, x.present());
        due.same("number behind refusals", 0, x.change('o', false, false, 1));
    }

    private void atMostThirty() {
        SwapWhile x = new SwapWhile();
        x.publish();
        for (int i = 0; i < 30; i++) {
            due.same("number", i, x.change('o', i % 2 == 1, false, 5));
        }
        due.same("present", 0, x.present());
        due.fails("a change more", STATE, () -> x.change('o', false, false, 5));
        due.fails("no mode", ARGUMENT, () -> x.change('z', false, false, 5));
        due.fails("no patience", ARGUMENT, () -> x.change('o', false, false, 0));
        due.same("present", 0, x.present());
        due.same("queued", 0, x.queued());
        due.fails("state of a change more", INDEX, () -> x.changed(30));
    }

    /** Promises 17 to 20. */
    private void stateOfChanges() {
        SwapWhile x = blocked();
        due.same("took effect", 'e', x.changed(0));
        due.same("queued", 0, x.queued());
        x.change('w', false, false, 3);
        x.change('w', true, false, 200);
        due.same("in the queue", 'q', x.changed(1));
        due.same("in the queue", 'q', x.changed(2));
        due.same("queued", 2, x.queued());
        due.same("present", 1, x.present());
        due.same("versions", 3, x.versions());
        x.release(0);
        x.step(0, 2);
        x.release(0);
        x.step(0, 1);
        due.same("dropped", 'd', x.changed(1));
        for (int change : new int[] {-1, 3, Integer.MIN_VALUE, Integer.MAX_VALUE}) {
            due.fails("no change", INDEX, () -> x.changed(change));
        }
        due.fails("no change at first", INDEX, () -> new SwapWhile().changed(0));
    }

    private void droppedWithoutAVersion() {
        SwapWhile x = new SwapWhile();
        due.same("number", 0, x.change('o', false, false, 5));
        due.same("ahead of the latest", 'd', x.changed(0));
        x.change('w', true, false, 5);
        due.same("behind the first", 'd', x.changed(1));
        due.same("queued", 0, x.queued());
        SwapWhile y = blocked();
        y.change('w', false, false, 200);
        y.change('w', false, false, 200);
        y.change('o', true, false, 200);
        due.same("not looked at yet", "qqq", "" + y.changed(1) + y.changed(2) + y.changed(3));
        y.release(0);
        y.step(0, 2);
        y.release(0);
        y.step(0, 2);
        due.same("the second has no version then", "ede", "" + y.changed(1) + y.changed(2) + y.changed(3));
        due.same("present", 1, y.present());
        SwapWhile z = blocked();
        z.change('w', false, false, 200);
        z.change('o', false, false, 200);
        z.publish();
        z.release(0);
        z.step(0, 2);
        z.release(0);
        z.step(0, 2);
        due.same("what is published meanwhile counts", "ee", "" + z.changed(1) + z.changed(2));
        due.same("present", 3, z.present());
    }

    private void waitsTillNoFrameIsTouched() {
        SwapWhile x = blocked();
        x.change('w', false, false, 200);
        due.same("against", 1, x.against());
        x.release(0);
        due.same("present", 1, x.present());
        due.same("steps", 2, x.step(0, 9));
        due.same("present", 1, x.present());
        x.release(0);
        x.step(0, 1);
        due.same("at its end", 1, x.present());
        x.step(0, 1);
        due.same("behind its end", 2, x.present());
        due.same("state", 'e', x.changed(1));
        due.same("start in it", 2, x.start(0, 0));
    }

    private void waitsForFramesBelow() {
        SwapWhile x = Told.machine("c 1 0 0", "k 0 1");
        Told.add(x, 1, "w", "k 0 1");
        Told.add(x, 2, "w");
        Told.publishAndGo(x);
        Told.replace(x, 0, "c 1 0 0", "k 0 2");
        x.publish();
        x.start(0, 0);
        x.start(1, 2);
        x.step(0, 2);
        x.step(1, 1);
        x.change('w', false, false, 200);
        due.same("the frame below stands against it", 1, x.against());
        x.release(0);
        x.step(0, 2);
        due.same("present", 2, x.present());
        x.step(0, 1);
        due.same("against", 1, x.against());
        x.step(0, 1);
        due.same("present", 3, x.present());
        due.same("a frame that is not touched goes along", 3201, x.at(1, 0));
    }

    private void framesNotTouchedGoAlong() {
        goesAlong('w', 2101, 2000);
        goesAlong('m', 2101, 2000);
        goesAlong('o', 1101, 1000);
    }

    private void goesAlong(char mode, int waiting, int ready) {
        SwapWhile x = new SwapWhile();
        Told.add(x, 0, "w");
        Told.add(x, 1, "w", "k 0 1");
        Told.add(x, 2, "w");
        Told.publishAndGo(x);
        x.map(1, 1, 0);
        Told.replace(x, 2, "k 0 1");
        x.publish();
        x.start(0, 1);
        x.step(0, 1);
        x.start(1, 0);
        x.change(mode, false, false, 5);
        due.same("present by " + mode, 2, x.present());
        due.same("one that waits, by " + mode, waiting, x.at(0, 0));
        due.same("one that is ready, by " + mode, ready, x.at(1, 0));
        x.change(mode, true, false, 5);
        due.same("present back by " + mode, 1, x.present());
        due.same("one that waits, back by " + mode, 1101, x.at(0, 0));
        due.same("one that is ready, back by " + mode, 1000, x.at(1, 0));
    }

    private void movesMappedFrames() {
        SwapWhile x = Told.machine("k 1 5", "w", "o 1", "w");
        Told.replace(x, 0, "k 2 6", "k 3 7", "o 3", "o 1", "w");
        x.map(0, 2, 3);
        x.publish();
        x.start(0, 0);
        x.step(0, 1);
        x.change('m', false, false, 200);
        due.same("not mapped", 1, x.against());
        due.same("steps", 1, x.step(0, 9));
        due.same("present", 2, x.present());
        due.same("moved", 2003, x.at(0, 0));
        due.same("still waits", 'w', x.state(0));
        due.same("its locals stay", 5, x.local(0, 0, 1));
        x.release(0);
        x.step(0, 1);
        due.same("put", 5, x.putAt(0));
        due.same("put in", 2, x.putIn(0));
        due.same("at", 2004, x.at(0, 0));
    }

    private void movesOnlyAllTogether() {
        SwapWhile x = Told.machine("w", "w", "w");
        Told.replace(x, 0, "w", "w");
        x.map(0, 1, 2);
        x.publish();
        x.start(0, 0);
        x.start(1, 0);
        x.step(0, 1);
        x.step(1, 1);
        x.release(1);
        x.step(1, 1);
        x.change('m', false, false, 200);
        due.same("one is mapped, one is not", 1, x.against());
        due.same("the one that is mapped stays", 1001, x.at(0, 0));
        x.start(2, 0);
        due.same("two are not mapped", 2, x.against());
        x.step(2, 1);
        due.same("one is not mapped", 1, x.against());
        x.release(1);
        x.step(1, 1);
        due.same("another place that is not mapped", 1, x.against());
        x.release(1);
        due.same("present", 1, x.present());
        x.step(1, 1);
        due.same("present when it is done", 2, x.present());
        due.same("moved", 2002, x.at(0, 0));
        due.same("moved", 2002, x.at(2, 0));
    }

    private void movesBackToTheLowest() {
        SwapWhile x = Told.machine("k 1 1", "k 1 1", "k 1 1", "w");
        Told.replace(x, 0, "k 1 1", "w", "k 1 1");
        x.map(0, 4, 2);
        x.map(0, 2, 2);
        x.map(0, 3, 2);
        x.map(0, 1, 3);
        x.publish();
        x.start(0, 0);
        x.step(0, 2);
        x.change('m', false, false, 200);
        due.same("moved", 2002, x.at(0, 0));
        x.change('m', true, false, 200);
        due.same("moved back to the lowest", 1002, x.at(0, 0));
        x.change('m', false, false, 200);
        due.same("moved again", 2002, x.at(0, 0));
        x.step(0, 1);
        x.change('m', true, false, 200);
        due.same("moved back from the end", 1001, x.at(0, 0));
        x.change('o', false, false, 200);
        x.start(1, 0);
        x.change('m', true, false, 200);
        due.same("a place to which none is mapped", 1, x.against());
        x.step(1, 1);
        due.same("another", 1, x.against());
        x.step(1, 1);
        due.same("moved back", 1002, x.at(1, 0));
        due.same("what was left stays", 1001, x.at(0, 0));
        due.same("present", 1, x.present());
    }

    private void movesBackToTheFirst() {
        SwapWhile x = Told.machine("w", "w");
        Told.replace(x, 0, "k 1 1", "w");
        x.map(0, 0, 0);
        x.map(0, 1, 0);
        x.publish();
        Told.go(x);
        x.start(0, 0);
        x.change('m', true, false, 200);
        due.same("moved back to the first place of all", 1000, x.at(0, 0));
    }

    private void movesFullThreads() {
        SwapWhile x = Told.machine("c 0 0 0", "k 0 1");
        Told.replace(x, 0, "c 0 0 0", "k 0 2");
        x.map(0, 0, 0);
        x.map(0, 1, 2);
        x.publish();
        for (int thread = 0; thread < 3; thread++) {
            x.start(thread, 0);
            x.step(thread, 7);
        }
        x.change('w', false, false, 1);
        due.same("all frames stand against it", 24, x.against());
        x.step(0, 1);
        due.same("frames of the others stand against it", "d", "" + x.changed(1));
        x.change('m', false, false, 1);
        due.same("present", 2, x.present());
        for (int thread = 1; thread < 3; thread++) {
            for (int frame = 0; frame < 8; frame++) {
                due.same("moved", frame < 7 ? 2002 : 2000, x.at(thread, frame));
            }
        }
    }

    private void leavesOldCode() {
        SwapWhile x = blocked();
        x.change('o', false, false, 5);
        due.same("present", 2, x.present());
        due.same("left", 1001, x.at(0, 0));
        x.release(0);
        x.step(0, 1);
        due.same("runs the old code", 1, x.local(0, 0, 1));
        due.same("start in the new one", 2, x.start(1, 0));
        x.step(1, 1);
        x.release(1);
        x.step(1, 1);
        due.same("runs the new code", 3, x.local(1, 0, 1));
    }

    private void framesOfOtherVersionsDoNotCount() {
        SwapWhile x = blocked();
        Told.replace(x, 0, "o 0");
        x.publish();
        Told.go(x);
        x.change('w', false, false, 5);
        due.same("present", 3, x.present());
        due.same("stays as it is", 1001, x.at(0, 0));
        x.change('m', true, false, 5);
        due.same("present", 2, x.present());
        due.same("stays as it is", 1001, x.at(0, 0));
        x.change('w', true, false, 5);
        due.same("back to its version without a wait", 1, x.present());
        due.same("stays as it is", 1001, x.at(0, 0));
    }

    private void framesLeftCountAgain() {
        SwapWhile x = blocked();
        Told.go(x);
        Told.goBack(x);
        due.same("present", 1, x.present());
        x.change('w', false, false, 5);
        due.same("counts again", 1, x.against());
        SwapWhile y = Told.machine("w");
        Told.replace(y, 1, "w");
        y.publish();
        y.start(0, 0);
        Told.go(y);
        due.same("left", 1000, y.at(0, 0));
        Told.goBack(y);
        y.change('w', false, false, 5);
        due.same("goes along, being of the present version again", 2000, y.at(0, 0));
    }

    private void queueGoesOn() {
        SwapWhile x = blocked();
        Told.replace(x, 0, "k 0 1");
        x.publish();
        x.change('w', false, false, 200);
        x.change('o', false, false, 200);
        x.change('m', true, false, 200);
        x.change('m', true, false, 200);
        x.change('o', true, false, 200);
        x.change('o', true, false, 200);
        due.same("all stand behind the first", 6, x.queued());
        due.same("present", 1, x.present());
        x.release(0);
        x.step(0, 2);
        x.release(0);
        x.step(0, 1);
        due.same("present", 1, x.present());
        x.step(0, 1);
        due.same("queued", 0, x.queued());
        due.same("one behind the other", 0, x.present());
        due.same("the last one had no version", 'd', x.changed(6));
        due.same("the one ahead had", 'e', x.changed(5));
    }

    private void queueIsLookedAtBehindEachStep() {
        SwapWhile x = Told.machine("c 1 0 0", "c 1 0 0", "o 0");
        Told.replace(x, 1, "k 0 5", "r 0");
        Told.publishAndGo(x);
        Told.replace(x, 1, "k 0 6", "r 0");
        x.publish();
        x.start(0, 0);
        x.step(0, 1);
        x.change('w', false, false, 200);
        due.same("against", 1, x.against());
        due.same("steps", 7, x.step(0, 99));
        due.same("the second call is one of the new version", 6, x.putAt(0));
        due.same("the caller has gone along", 3, x.putIn(0));
    }

    private void failingFreesTheQueue() {
        SwapWhile x = Told.machine("c 1 0 0");
        Told.add(x, 1, "g 0 0 0");
        Told.publishAndGo(x);
        Told.replace(x, 0, "w");
        Told.replace(x, 1, "w");
        x.publish();
        x.start(0, 0);
        x.step(0, 1);
        x.change('w', false, false, 1);
        due.same("against", 2, x.against());
        x.step(0, 1);
        due.same("state", 'f', x.state(0));
        due.same("behind the step that fails", 3, x.present());
        due.same("took effect", 'e', x.changed(2));
    }

    private void carriesAtOnce() {
        SwapWhile x = Told.machine("n 0 0", "n 1 1", "w");
        x.setFields(0, 2);
        x.setCarry(0, false, 1, 0, 7);
        x.setCarry(0, true, 0, 1, 10);
        x.publish();
        x.start(0, 0);
        x.step(0, 2);
        x.change('o', false, false, 5);
        due.same("shapes stay", "11", "" + x.shape(0) + x.shape(1));
        Told.goBack(x);
        x.change('o', false, true, 5);
        due.same("shapes", "22", "" + x.shape(0) + x.shape(1));
        due.same("field", 7, x.field(0, 1));
        x.change('o', true, true, 5);
        due.same("shapes back", "11", "" + x.shape(0) + x.shape(1));
        due.same("field", 17, x.field(0, 0));
        SwapWhile y = Told.machine("n 0 0");
        y.setCarry(0, false, 0, 0, 3);
        y.publish();
        y.setCarry(0, false, 0, 0, 4);
        y.publish();
        y.start(0, 0);
        y.step(0, 1);
        y.change('o', false, false, 5);
        due.same("shape", 1, y.shape(0));
        y.change('w', false, true, 5);
        due.same("carried over two versions", 3, y.shape(0));
        due.same("field", 7, y.field(0, 0));
    }

    /** Promise 21. */
    private void countsAgainst() {
        SwapWhile x = Told.machine("c 1 0 0", "w");
        Told.add(x, 1, "c 2 0 0", "w");
        Told.add(x, 2, "c 0 0 0", "w");
        due.fails("an empty queue", NoSuchElementException.class, x::against);
        Told.publishAndGo(x);
        Told.replace(x, 0, "c 1 0 0", "k 0 1");
        Told.replace(x, 2, "c 0 0 0", "k 0 1");
        x.publish();
        x.start(0, 0);
        x.start(1, 2);
        x.start(2, 1);
        x.step(0, 3);
        x.step(1, 1);
        due.fails("an empty queue", NoSuchElementException.class, x::against);
        x.change('w', false, false, 100);
        due.same("frames against", 5, x.against());
        x.step(0, 2);
        due.same("frames against", 6, x.against());
        x.step(2, 1);
        due.same("frames against", 7, x.against());
        x.change('m', false, false, 100);
        due.same("only the first change counts", 7, x.against());
        Told.add(x, 3, "w");
        x.publish();
        due.same("what is published beyond does not count", 7, x.against());
    }

    private void givesUp() {
        SwapWhile x = blocked();
        x.start(1, 4);
        x.start(2, 0);
        x.step(2, 1);
        x.change('w', false, false, 2);
        x.step(1, 1);
        due.same("behind one step", 'q', x.changed(1));
        x.release(2);
        due.same("a release is no step", 'q', x.changed(1));
        x.step(2, 1);
        due.same("behind two steps, of any threads", 'd', x.changed(1));
        due.same("queued", 0, x.queued());
        due.same("present", 1, x.present());
    }

    private void givesUpBehindWhatTakesEffect() {
        SwapWhile x = Told.machine("k 1 1", "k 1 1");
        Told.replace(x, 0, "w");
        x.publish();
        x.start(0, 0);
        x.change('w', false, false, 3);
        x.step(0, 2);
        due.same("queued", 'q', x.changed(1));
        x.step(0, 1);
        due.same("behind its last step it takes effect", 'e', x.changed(1));
        SwapWhile y = Told.machine("k 1 1", "k 1 1");
        Told.replace(y, 0, "w");
        y.publish();
        y.start(0, 0);
        y.change('w', false, false, 2);
        y.step(0, 3);
        due.same("a step earlier it is dropped", 'd', y.changed(1));
        due.same("present", 1, y.present());
    }

    private void givesUpAnywhereInTheQueue() {
        SwapWhile x = blocked();
        x.change('w', false, false, 200);
        x.change('w', false, false, 1);
        x.change('w', true, false, 2);
        x.start(1, 4);
        x.start(2, 4);
        x.step(1, 1);
        due.same("the second", "qdq", "" + x.changed(1) + x.changed(2) + x.changed(3));
        due.same("queued", 2, x.queued());
        x.step(2, 1);
        due.same("the third", "qdd", "" + x.changed(1) + x.changed(2) + x.changed(3));
        due.same("queued", 1, x.queued());
        SwapWhile y = blocked();
        y.change('w', false, false, 1);
        y.change('o', true, false, 200);
        y.change('o', true, false, 200);
        y.start(1, 4);
        y.step(1, 1);
        due.same("the queue is looked at again", "ded", "" + y.changed(1) + y.changed(2) + y.changed(3));
        due.same("present", 0, y.present());
    }

    private void givesUpTogether() {
        SwapWhile x = blocked();
        x.change('w', false, false, 1);
        x.change('o', false, false, 1);
        x.change('o', true, false, 2);
        x.start(1, 4);
        x.step(1, 1);
        due.same("both are dropped", "dde", "" + x.changed(1) + x.changed(2) + x.changed(3));
        due.same("present", 0, x.present());
    }

    private void givesUpBySteps() {
        SwapWhile x = Told.machine("w", "k 0 1");
        Told.replace(x, 1, "k 0 1", "j 0 0");
        Told.publishAndGo(x);
        Told.replace(x, 0, "w");
        x.publish();
        x.start(0, 0);
        x.start(1, 1);
        x.step(1, 7);
        x.change('m', false, false, 200);
        due.same("steps", 99, x.step(1, 99));
        due.same("steps", 99, x.step(1, 99));
        due.same("steps", 1, x.step(1, 1));
        due.same("behind 199 steps", 'q', x.changed(2));
        due.same("steps", 1, x.step(1, 1));
        due.same("behind 200 steps", 'd', x.changed(2));
    }

    /** Promises 22 and 23. */
    private void watched() {
        SwapWhile x = Told.machine("k 0 7", "o 0", "k 0 8", "o 0", "k 0 9", "o 0");
        due.same("watched at first", false, x.isWatched());
        due.same("watch", false, x.watch(5));
        due.same("watched", true, x.isWatched());
        due.same("watch again", true, x.watch(8));
        x.start(0, 0);
        x.step(0, 2);
        due.same("the later limit counts", true, x.isWatched());
        x.step(0, 2);
        due.same("an amount that is the limit", true, x.isWatched());
        due.same("present", 1, x.present());
        x.step(0, 1);
        due.same("present", 1, x.present());
        x.step(0, 1);
        due.same("an amount that is greater", false, x.isWatched());
        due.same("present", 0, x.present());
        due.same("the next number", 'e', x.changed(1));
        due.same("watch anew", false, x.watch(5));
        SwapWhile y = Told.machine("o 0", "k 0 -5", "o 0");
        y.watch(Integer.MAX_VALUE);
        y.watch(-6);
        y.start(0, 0);
        y.step(0, 1);
        due.same("0 is greater than -6", 0, y.present());
        SwapWhile z = Told.machine("k 0 2147483647", "o 0");
        z.watch(Integer.MAX_VALUE);
        z.start(0, 0);
        z.step(0, 9);
        due.same("none is greater than the greatest", true, z.isWatched());
    }

    private void watchTakesBack() {
        SwapWhile x = Told.machine("n 1 0", "k 0 9", "o 0", "w");
        Told.replace(x, 1, "w");
        Told.publishAndGo(x);
        x.start(0, 0);
        x.watch(8);
        due.same("steps", 4, x.step(0, 4));
        due.same("present", 1, x.present());
        due.same("frames are left", 2004, x.at(0, 0));
        due.same("objects are not carried", 2, x.shape(0));
        due.same("number", 'e', x.changed(2));
        due.same("put in", 2, x.putIn(0));
        due.fails("no more changes than that", INDEX, () -> x.changed(3));
    }

    private void watchGoesAhead() {
        SwapWhile x = blocked();
        Told.add(x, 1, "k 0 9", "o 0", "o 0");
        x.publish();
        Told.go(x);
        Told.go(x);
        due.same("present", 3, x.present());
        x.start(1, 0);
        x.start(2, 1);
        Told.replace(x, 0, "k 0 1");
        x.publish();
        x.change('w', false, false, 200);
        x.change('o', true, false, 200);
        due.same("queued", 2, x.queued());
        x.watch(0);
        x.step(2, 2);
        due.same("ahead of all others", "eee", "" + x.changed(5) + x.changed(3) + x.changed(4));
        due.same("they are looked at behind it", 2, x.present());
        x.step(2, 1);
        due.same("another amount", 9, x.putAt(1));
        due.same("the watch is gone", 2, x.present());
    }

    private void watchInVersionZero() {
        SwapWhile x = Told.machine("k 0 9", "o 0", "w");
        x.start(0, 0);
        Told.goBack(x);
        x.watch(8);
        x.step(0, 3);
        due.same("present", 0, x.present());
        due.same("the watch is gone", false, x.isWatched());
        due.same("queued", 0, x.queued());
        due.fails("it asks for nothing", INDEX, () -> x.changed(2));
        due.same("the next number", 2, x.change('o', false, false, 5));
        due.same("put in", 1, x.putIn(0));
    }

    private void watchBeyondThirty() {
        SwapWhile x = Told.machine("k 0 9", "o 0", "j 0 1");
        x.publish();
        x.publish();
        for (int i = 1; i < 30; i++) {
            due.same("number", i, x.change('o', i % 2 == 0, false, 5));
        }
        due.same("present", 2, x.present());
        x.start(0, 0);
        x.watch(8);
        x.step(0, 3);
        due.same("also if 30 were asked for", 1, x.present());
        due.same("the next number", 'e', x.changed(30));
        x.watch(8);
        x.step(0, 2);
        due.same("once more", 0, x.present());
        due.same("the next number", 'e', x.changed(31));
        due.fails("a change more", STATE, () -> x.change('o', false, false, 5));
        x.watch(8);
        x.step(0, 2);
        due.same("in the version 0", false, x.isWatched());
        due.fails("it asks for nothing", INDEX, () -> x.changed(32));
    }

    private void watchCountsAsAsked() {
        SwapWhile x = Told.machine("k 0 9", "o 0", "j 0 1");
        x.start(0, 0);
        x.watch(8);
        x.step(0, 2);
        for (int i = 2; i < 30; i++) {
            due.same("number", i, x.change('o', i % 2 == 1, false, 5));
        }
        due.fails("30 were asked for, one by the watch", STATE, () -> x.change('o', false, false, 5));
    }
}
