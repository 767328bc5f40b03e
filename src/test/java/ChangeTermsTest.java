import java.util.NoSuchElementException;

/** 'Changes', 'Mapping', 'Giving up' and 'Watch' of the document's 'Terms', sentence by sentence, at each edge. */
public final class ChangeTermsTest {
    private static final Class<IllegalArgumentException> ARGUMENT = IllegalArgumentException.class;
    private static final Class<IllegalStateException> STATE = IllegalStateException.class;
    private static final Class<IndexOutOfBoundsException> INDEX = IndexOutOfBoundsException.class;
    private static final Class<NoSuchElementException> EMPTY = NoSuchElementException.class;
    private static final int MIN = Integer.MIN_VALUE;
    private static final int MAX = Integer.MAX_VALUE;
    private static final char[] MODES = {'w', 'm', 'o'};

    private final Due due = new Due("ChangeTermsTest");

    public static void main(String[] args) {
        ChangeTermsTest test = new ChangeTermsTest();
        test.changes();
        test.mapping();
        test.givingUp();
        test.watch();
        test.due.close();
    }

    private void changes() {
        leadsByOne();
        takesEffectBehindEachCall();
        oneBehindTheOther();
        noVersionToLeadTo();
        noVersionWithFramesOpen();
        toVersionZeroAndOn();
        noVersionWhenItIsLookedAt();
        touchedByInstructions();
        touchedByNumbersOfFields();
        onlyThePresentVersionCounts();
        leftAndOfItAgain();
        waitsForEachFrame();
        movesIfEachIsMapped();
        leavesAllFrames();
        goesAlongWhereNotTouched();
        carriesNoneOrAll();
        atMostThirtyChanges();
    }

    private void mapping() {
        placesOfBothVersions();
        mapsEachPlace();
        mapsBackToTheLowest();
        placeBehindTheCall();
        placeBeyondTheEnd();
        mappingsBeyondAreGone();
    }

    private void givingUp() {
        patienceOfAnyNumber();
        stepsSinceItWasAskedFor();
        takesEffectBehindItsLastStep();
        droppedWhereverItIs();
        lookedAtAgain();
        stepsThatCount();
    }

    private void watch() {
        limits();
        goneBehindOne();
        asksForAChangeBack();
        aheadOfAllOthers();
        alsoIfThirtyWereAskedFor();
        countsAmongThirty();
        goneInVersionZero();
    }

    /** A machine in version 1 of 3, in which only the function 0 is touched, with a frame in it that waits. */
    private SwapWhile blocked() {
        SwapWhile x = new SwapWhile();
        Told.add(x, 0, "w", "k 1 1");
        Told.add(x, 1, "k 0 1", "j 0 0");
        Told.publishAndGo(x);
        Told.replace(x, 0, "w", "k 1 2");
        x.publish();
        x.start(0, 0);
        x.step(0, 1);
        x.start(1, 1);
        return x;
    }

    /** Ends the frame that stands against a change in a machine that is blocked, by two steps. */
    private void end(SwapWhile x) {
        x.release(0);
        x.step(0, 2);
    }

    private String states(SwapWhile x, int from, int to) {
        StringBuilder text = new StringBuilder();
        for (int change = from; change <= to; change++) {
            text.append(x.changed(change));
        }
        return text.toString();
    }

    // ---- changes

    /** A change leads from the present version to the next one, or back to the one before. */
    private void leadsByOne() {
        for (char mode : MODES) {
            SwapWhile x = new SwapWhile();
            for (int i = 0; i < 5; i++) {
                x.publish();
            }
            for (int version = 1; version <= 5; version++) {
                due.same("number", version - 1, x.change(mode, false, false, 1));
                due.same("forward", version, x.present());
            }
            for (int version = 4; version >= 0; version--) {
                due.same("number", 9 - version, x.change(mode, true, true, 200));
                due.same("back", version, x.present());
            }
            due.same("states", "eeeeeeeeee", states(x, 0, 9));
        }
    }

    /** It takes effect as soon as it can, looked at behind each step and each call that asks for a change. */
    private void takesEffectBehindEachCall() {
        SwapWhile x = blocked();
        due.same("number", 1, x.change('w', false, false, 200));
        due.same("present", 1, x.present());
        due.same("a start", 1, x.start(2, 2));
        due.same("state", 'q', x.changed(1));
        x.release(0);
        due.same("behind a release", 'q', x.changed(1));
        x.step(0, 1);
        due.same("behind the step to its end", 'q', x.changed(1));
        x.step(0, 1);
        due.same("behind the step that ends it", 'e', x.changed(1));
        due.same("a start", 2, x.start(0, 0));
        SwapWhile y = blocked();
        y.release(0);
        y.change('w', false, false, 200);
        due.same("steps within one call", 2, y.step(0, 2));
        due.same("state", 'e', y.changed(1));
        due.same("the others are in the new version", 2100, y.at(1, 0));
    }

    /** Then the next one is looked at. */
    private void oneBehindTheOther() {
        SwapWhile x = blocked();
        x.publish();
        x.change('w', false, false, 200);
        x.change('w', false, true, 200);
        x.change('o', true, false, 200);
        x.change('m', true, false, 200);
        due.same("all in the queue", 4, x.queued());
        due.same("states", "qqqq", states(x, 1, 4));
        end(x);
        due.same("none in the queue", 0, x.queued());
        due.same("states", "eeee", states(x, 1, 4));
        due.same("present", 1, x.present());
        due.fails("against", EMPTY, x::against);
    }

    /** One that has no version to lead to when it is looked at is dropped. */
    private void noVersionToLeadTo() {
        for (char mode : MODES) {
            SwapWhile x = new SwapWhile();
            x.publish();
            x.change(mode, true, false, 200);
            due.same("back from the version 0", 'd', x.changed(0));
            x.change(mode, false, false, 200);
            due.same("to the latest", 'e', x.changed(1));
            x.change(mode, false, false, 200);
            due.same("from the latest", 'd', x.changed(2));
            due.same("present", 1, x.present());
            x.change(mode, true, false, 200);
            due.same("back from the version 1", 'e', x.changed(3));
            x.change(mode, true, true, 200);
            due.same("back from the version 0", 'd', x.changed(4));
            due.same("present", 0, x.present());
            due.same("queued", 0, x.queued());
        }
    }

    /** That holds with frames in functions that were touched by the change to the latest version, too. */
    private void noVersionWithFramesOpen() {
        for (char mode : MODES) {
            SwapWhile x = Told.machine("w");
            Told.replace(x, 0, "k 0 1", "w");
            Told.publishAndGo(x);
            x.start(0, 0);
            x.change(mode, false, false, 200);
            due.same("from the latest", 'd', x.changed(2));
            due.fails("against", EMPTY, x::against);
            SwapWhile y = new SwapWhile();
            y.start(0, 0);
            y.change(mode, true, false, 200);
            due.same("back from the version 0", 'd', y.changed(0));
            due.same("at", 0, y.at(0, 0));
        }
    }

    /** A change back to the version 0, which is without instructions, and on from it, is one like any other. */
    private void toVersionZeroAndOn() {
        for (char mode : MODES) {
            SwapWhile x = Told.machine("k 0 1", "w");
            x.start(0, 0);
            x.start(1, 4);
            x.change(mode, true, false, 200);
            if (mode == 'o') {
                due.same("present", 0, x.present());
                due.same("it is left", 1000, x.at(0, 0));
                continue;
            }
            due.same("a function with instructions is touched", 1, x.against());
            due.same("present", 1, x.present());
            x.step(0, 2);
            x.release(0);
            due.same("still", 1, x.against());
            x.step(0, 1);
            due.same("behind its end", 0, x.present());
            due.same("one without instructions goes along", 400, x.at(1, 0));
            x.start(0, 0);
            x.change(mode, false, false, 200);
            due.same("a frame of the version 0 stands against it", 1, x.against());
            x.step(0, 1);
            due.same("behind its end", 1, x.present());
            due.same("one without instructions goes along", 1400, x.at(1, 0));
        }
        SwapWhile y = new SwapWhile();
        Told.add(y, 0, "w", "w", "w");
        y.map(0, 0, 3);
        y.publish();
        y.start(0, 0);
        y.change('m', false, false, 200);
        due.same("moved from the only place of the version 0", 1003, y.at(0, 0));
        y.change('m', true, false, 200);
        due.same("moved back to it", 0, y.at(0, 0));
        Told.go(y);
        y.start(1, 0);
        y.change('m', true, false, 200);
        due.same("a place to which none is mapped", 1, y.against());
    }

    private void noVersionWhenItIsLookedAt() {
        SwapWhile x = blocked();
        x.change('w', false, false, 200);
        x.change('o', false, false, 200);
        x.change('o', true, false, 200);
        x.change('o', true, false, 200);
        x.change('o', true, false, 200);
        due.same("not looked at", "qqqqq", states(x, 1, 5));
        end(x);
        due.same("the second and the last have none", "edeed", states(x, 1, 5));
        due.same("present", 0, x.present());
        SwapWhile y = blocked();
        y.change('w', false, false, 200);
        y.change('o', false, false, 200);
        y.publish();
        due.same("not looked at by publishing", "qq", states(y, 1, 2));
        end(y);
        due.same("the second has one meanwhile", "ee", states(y, 1, 2));
        due.same("present", 3, y.present());
        SwapWhile z = new SwapWhile();
        z.change('o', false, false, 200);
        z.publish();
        due.same("what was dropped stays so", 'd', z.changed(0));
        due.same("present", 0, z.present());
    }

    /** A function is touched if its instructions differ in both versions; numbers without a meaning are none of them. */
    private void touchedByInstructions() {
        touched(false, "k 1 5;w", "k 1 5;w");
        touched(true, "k 1 5;w", "k 1 6;w");
        touched(true, "k 1 5;w", "k 2 5;w");
        touched(true, "k 1 5;w", "w;k 1 5");
        touched(true, "k 1 5;w", "k 1 5");
        touched(true, "k 1 5;w", "k 1 5;w;w");
        touched(true, "r 0;w", "o 0;w");
        touched(true, "c 1 2 3", "t 1 2 3");
        touched(true, "g 0 0 0", "p 0 0 0");
        touched(true, "g 0 0 0", "g 0 0 1");
        touched(false, "k 0 1 2", "k 0 1 3");
        touched(false, "a 0 1 2;n 0 1 2;j 0 1 2;s 0 1 2", "a 0 1 3;n 0 1 3;j 0 1 3;s 0 1 3");
        touched(false, "r 0 1 2;o 0 1 2;w 0 1 2", "r 0 3 4;o 0 3 4;w 5 3 4");
    }

    private void touched(boolean want, String one, String other) {
        SwapWhile x = new SwapWhile();
        Told.add(x, 4, one.split(";"));
        x.publish();
        Told.replace(x, 4, other.split(";"));
        x.publish();
        Told.replace(x, 4, one.split(";"));
        x.publish();
        due.same(one + " and " + other, want, x.isTouched(1, 4));
        due.same(other + " and " + one, want, x.isTouched(2, 4));
        due.same("another function", false, x.isTouched(1, 3));
        SwapWhile y = new SwapWhile();
        y.publish();
        Told.add(y, 4, one.split(";"));
        y.publish();
        due.same("from none", true, y.isTouched(1, 4));
        due.same("none and none", false, y.isTouched(0, 4));
    }

    /** Or if it has an instruction 'n', 'g' or 'p' with a kind whose number of fields differs. */
    private void touchedByNumbersOfFields() {
        for (int kind = 0; kind < 3; kind++) {
            for (int ahead = 1; ahead <= 4; ahead++) {
                for (int drafted = 1; drafted <= 4; drafted++) {
                    SwapWhile x = new SwapWhile();
                    x.setFields(kind, ahead);
                    Told.add(x, 0, "w", "n 0 " + kind);
                    Told.add(x, 1, "g 0 " + 10 * kind + " 0", "w");
                    Told.add(x, 2, "w", "w", "w", "w", "w", "w", "w", "w", "w", "p 0 " + (10 * kind + 3) + " 0");
                    int other = (kind + 1) % 3;
                    Told.add(x, 3, "n 0 " + other, "g 0 " + 10 * other + " 0", "p 3 " + 10 * other + " 3");
                    Told.add(x, 4, "k 0 1", "a 0 1", "j 0 1", "c 0 1 2", "t 0 1 2", "s 0 1", "r 0", "o 0", "w");
                    x.publish();
                    x.setFields(kind, drafted);
                    x.publish();
                    for (int function = 0; function < 3; function++) {
                        due.same("fields " + ahead + " and " + drafted, ahead != drafted, x.isTouched(1, function));
                    }
                    due.same("another kind", false, x.isTouched(1, 3));
                    due.same("no instruction that uses objects", false, x.isTouched(1, 4));
                }
            }
        }
    }

    /** Only frames of the present version count in this; others stay as they are. */
    private void onlyThePresentVersionCounts() {
        for (char mode : MODES) {
            SwapWhile x = blocked();
            x.publish();
            Told.go(x);
            Told.go(x);
            due.same("present", 3, x.present());
            x.change(mode, true, false, 200);
            due.same("a frame of a version further off", 2, x.present());
            due.same("it stays as it is", 1001, x.at(0, 0));
            x.change(mode, true, false, 200);
            due.same("a frame of the version to which it leads", 1, x.present());
            due.same("it stays as it is", 1001, x.at(0, 0));
            x.change(mode, false, false, 200);
            due.same("a frame of the present version, by " + mode, mode == 'o' ? 2 : 1, x.present());
        }
    }

    /** Also those that were left in it and are of it again. */
    private void leftAndOfItAgain() {
        SwapWhile x = blocked();
        Told.go(x);
        x.start(2, 0);
        x.step(2, 1);
        Told.goBack(x);
        due.same("one of each version", "1001 2001", x.at(0, 0) + " " + x.at(2, 0));
        x.change('w', false, false, 200);
        due.same("that of the present one counts", 1, x.against());
        end(x);
        due.same("present", 2, x.present());
        due.same("one that was left", 2001, x.at(2, 0));
        due.same("one that is not touched goes along", 2100, x.at(1, 0));
        x.change('w', true, false, 200);
        due.same("that of the present one counts", 1, x.against());
        x.release(2);
        x.step(2, 2);
        due.same("present", 1, x.present());
    }

    /** 'w' can take effect if no frame of a thread is in a function that is touched. */
    private void waitsForEachFrame() {
        for (int thread = 0; thread < 3; thread++) {
            for (int depth = 1; depth <= 8; depth++) {
                SwapWhile x = new SwapWhile();
                Told.add(x, 0, "c 1 0 0", "w");
                Told.add(x, 1, "c 1 0 0", "w");
                Told.add(x, 2, "c 1 0 0", "w");
                Told.publishAndGo(x);
                Told.add(x, 0, "w");
                x.publish();
                for (int other = 0; other < 3; other++) {
                    x.start(other, other == thread ? 0 : 2);
                }
                if (depth > 1) {
                    x.step(thread, depth - 1);
                }
                x.change('w', false, false, 200);
                due.same("one frame stands against it", 1, x.against());
                due.same("present", 1, x.present());
                due.same("steps", 9 - depth, x.step(thread, 9 - depth));
                due.same("state", 'f', x.state(thread));
                due.same("none stands against it", 2, x.present());
            }
        }
    }

    /** 'm' can if each such frame is at a place that is mapped; it goes on there, in the new version then. */
    private void movesIfEachIsMapped() {
        for (int first = 0; first <= 3; first++) {
            for (int second = 0; second <= 3; second++) {
                SwapWhile x = Told.machine("k 0 1", "k 1 1", "k 2 1");
                Told.replace(x, 0, "k 0 2", "k 0 2", "k 0 2", "k 1 2", "w");
                x.map(0, 1, 5);
                x.map(0, 2, 0);
                x.publish();
                toPlace(x, 0, first);
                toPlace(x, 2, second);
                x.change('m', false, false, 200);
                int against = (isMapped(first) ? 0 : 1) + (isMapped(second) ? 0 : 1);
                if (against > 0) {
                    due.same("against", against, x.against());
                    due.same("the first stays", 1000 + first, x.at(0, 0));
                    due.same("the second stays", 1000 + second, x.at(2, 0));
                } else {
                    due.same("the first is moved", first == 1 ? 2005 : 2000, x.at(0, 0));
                    due.same("the second is moved", second == 1 ? 2005 : 2000, x.at(2, 0));
                    due.fails("against", EMPTY, x::against);
                }
            }
        }
    }

    private static boolean isMapped(int place) {
        return place == 1 || place == 2;
    }

    private void toPlace(SwapWhile x, int thread, int place) {
        x.start(thread, 0);
        if (place > 0) {
            x.step(thread, place);
        }
    }

    /** 'o' can always; it leaves all frames as they are. */
    private void leavesAllFrames() {
        SwapWhile x = blocked();
        Told.add(x, 1, "w");
        x.start(2, 3);
        x.change('o', false, false, 1);
        due.same("present", 2, x.present());
        due.same("one that is touched", 1001, x.at(0, 0));
        due.same("one that is not", 1100, x.at(1, 0));
        due.same("one without instructions", 1300, x.at(2, 0));
        x.change('o', true, false, 1);
        due.same("present", 1, x.present());
        due.same("one that is touched", 1001, x.at(0, 0));
    }

    /** Frames of the present version in functions that are not touched are in the new version from then on. */
    private void goesAlongWhereNotTouched() {
        for (char mode : MODES) {
            SwapWhile x = new SwapWhile();
            Told.add(x, 0, "k 0 1", "j 0 10");
            Told.add(x, 1, "c 1 0 0");
            Told.publishAndGo(x);
            Told.add(x, 2, "w");
            x.map(0, 0, 1);
            x.map(1, 1, 0);
            x.publish();
            x.start(0, 0);
            x.start(1, 1);
            x.step(1, 7);
            x.start(2, 0);
            x.step(2, 2);
            for (int i = 0; i < 3; i++) {
                int version = mode == 'o' || i == 1 ? 1000 : 2000;
                x.change(mode, i == 1, false, 200);
                due.same("at its first place", version, x.at(0, 0));
                for (int frame = 0; frame < 8; frame++) {
                    due.same("behind its call", version + (frame < 7 ? 101 : 100), x.at(1, frame));
                }
                due.same("at a place far behind the last one", version + 10, x.at(2, 0));
            }
        }
    }

    /** If it carries at once, all objects are carried to it. */
    private void carriesNoneOrAll() {
        for (int objects : new int[] {0, 1, 2, 29, 30}) {
            for (char mode : MODES) {
                SwapWhile x = Told.machine("n 0 0", "k 1 1", "j 1 0");
                x.setCarry(0, false, 0, 0, 1);
                x.setCarry(0, true, 0, 0, 10);
                x.publish();
                x.start(0, 0);
                if (objects > 0) {
                    x.step(0, 3 * objects - 2);
                }
                x.change(mode, false, false, 9);
                tellsObjects(x, objects, 1, 0);
                x.change(mode, true, true, 9);
                tellsObjects(x, objects, 1, 0);
                x.change(mode, false, true, 9);
                tellsObjects(x, objects, 2, 1);
                x.change(mode, true, true, 9);
                tellsObjects(x, objects, 1, 11);
            }
        }
    }

    private void tellsObjects(SwapWhile x, int objects, int shape, int field) {
        due.same("objects", objects, x.objects());
        for (int object = 0; object < objects; object++) {
            due.same("shape", shape, x.shape(object));
            due.same("field", field, x.field(object, 0));
        }
        if (objects > 0) {
            due.same("share", x.present() == shape ? 1.0f : 0.0f, x.carriedShare());
        }
    }

    /** At most 30 changes are asked for, also if all are in the queue, or all were dropped. */
    private void atMostThirtyChanges() {
        SwapWhile x = blocked();
        for (int number = 1; number < 30; number++) {
            due.same("number", number, x.change('w', false, false, 200));
            due.same("queued", number, x.queued());
        }
        due.fails("one more", STATE, () -> x.change('w', false, false, 200));
        due.same("queued", 29, x.queued());
        due.same("the last one", 'q', x.changed(29));
        due.fails("one more", INDEX, () -> x.changed(30));
        end(x);
        due.same("the first took effect", "ed", states(x, 1, 2));
        due.same("the others had no version", 'd', x.changed(29));
        due.fails("one more, with the queue empty", STATE, () -> x.change('w', true, false, 200));
        SwapWhile y = new SwapWhile();
        for (int number = 0; number < 30; number++) {
            due.same("number", number, y.change('m', true, false, 200));
        }
        due.fails("one more, with all dropped", STATE, () -> y.change('m', true, false, 200));
    }

    // ---- mapping

    /** With its number of instructions as the place behind the last one in both. */
    private void placesOfBothVersions() {
        for (int ahead = 0; ahead <= 10; ahead++) {
            for (int drafted = 0; drafted <= 10; drafted++) {
                SwapWhile x = new SwapWhile();
                addWaits(x, 3, ahead);
                x.publish();
                x.empty(3);
                addWaits(x, 3, drafted);
                int placeAbove = ahead + 1;
                int toAbove = drafted + 1;
                due.same("the lowest places", 1, x.map(3, 0, 0));
                due.same("the highest places", ahead == 0 ? 1 : 2, x.map(3, ahead, drafted));
                due.fails("a place below", ARGUMENT, () -> x.map(3, -1, 0));
                due.fails("a place above", ARGUMENT, () -> x.map(3, placeAbove, 0));
                due.fails("none for a place above", ARGUMENT, () -> x.map(3, placeAbove, -1));
                due.fails("to a place below", ARGUMENT, () -> x.map(3, 0, -2));
                due.fails("to a place above", ARGUMENT, () -> x.map(3, 0, toAbove));
                due.same("to none", ahead == 0 ? 0 : 1, x.map(3, 0, -1));
            }
        }
    }

    private void addWaits(SwapWhile x, int function, int count) {
        for (int i = 0; i < count; i++) {
            x.add(function, 'w', 0, 0, 0);
        }
    }

    /** The places of a function in the version ahead can be mapped to places in the draft. */
    private void mapsEachPlace() {
        for (int place = 0; place <= 10; place++) {
            for (int to = 0; to <= 10; to++) {
                SwapWhile x = new SwapWhile();
                addConstants(x, 1);
                Told.publishAndGo(x);
                x.empty(0);
                addConstants(x, 2);
                due.same("mapped", 1, x.map(0, place, to));
                x.publish();
                toPlace(x, 0, place);
                x.change('m', false, false, 200);
                due.same("moved", 2000 + to, x.at(0, 0));
                x.change('m', true, false, 200);
                due.same("moved back", 1000 + place, x.at(0, 0));
                due.same("the rest, and the end", 11 - place, x.step(0, 99));
            }
        }
    }

    private void addConstants(SwapWhile x, int number) {
        for (int i = 0; i < 10; i++) {
            x.add(0, 'k', 0, number, 0);
        }
    }

    /** Back, a place is mapped to the lowest one that is mapped to it. */
    private void mapsBackToTheLowest() {
        for (int low = 0; low < 10; low++) {
            for (int high = low + 1; high <= 10; high++) {
                SwapWhile x = new SwapWhile();
                addConstants(x, 1);
                Told.publishAndGo(x);
                x.empty(0);
                addConstants(x, 2);
                x.map(0, high, 4);
                x.map(0, low, 4);
                x.publish();
                toPlace(x, 0, high);
                x.change('m', false, false, 200);
                due.same("moved", 2004, x.at(0, 0));
                x.change('m', true, false, 200);
                due.same("moved back to the lowest", 1000 + low, x.at(0, 0));
            }
        }
        SwapWhile y = Told.machine("w");
        Told.replace(y, 0, "k 0 1", "w");
        y.map(0, 0, 1);
        y.map(0, 1, 1);
        y.map(0, 0, -1);
        y.publish();
        Told.go(y);
        y.start(0, 0);
        y.change('m', true, false, 200);
        due.same("none is mapped to it", 1, y.against());
        y.step(0, 1);
        due.same("one that is mapped to nothing does not count", 1001, y.at(0, 0));
    }

    /** A frame that has called a function is at the place behind the call. */
    private void placeBehindTheCall() {
        SwapWhile x = new SwapWhile();
        Told.add(x, 0, "c 1 0 2");
        Told.add(x, 1, "w", "k 0 5", "r 0");
        Told.publishAndGo(x);
        Told.replace(x, 0, "k 1 1", "k 1 2", "o 2");
        x.map(0, 1, 2);
        x.publish();
        x.start(0, 0);
        due.same("at the call", 1000, x.at(0, 0));
        x.change('m', false, false, 200);
        due.same("the call is not mapped", 1, x.against());
        x.step(0, 1);
        due.same("behind the call it is", 2002, x.at(0, 0));
        due.same("what is called goes along", 2100, x.at(0, 1));
        x.step(0, 1);
        x.release(0);
        x.step(0, 99);
        due.same("what was returned", 5, x.putAt(0));
        due.same("put in", 2, x.putIn(0));
    }

    /** A place beyond the number of instructions, to which a jump leads, is none that is mapped. */
    private void placeBeyondTheEnd() {
        for (int place = 2; place <= 10; place++) {
            SwapWhile x = Told.machine("k 0 1", "j 0 " + place);
            Told.replace(x, 0, "k 0 1", "j 0 " + place, "w", "w", "w", "w", "w", "w", "w", "w");
            x.map(0, 2, 10);
            x.publish();
            x.start(0, 0);
            x.step(0, 2);
            x.change('m', false, false, 200);
            due.same("moved from " + place, place == 2 ? 2010 : 1000 + place, x.at(0, 0));
            if (place > 2) {
                due.same("against", 1, x.against());
                due.same("its end", 1, x.step(0, 99));
                due.same("present", 2, x.present());
            }
        }
        SwapWhile y = Told.machine("k 0 1", "j 0 5", "w", "w", "w");
        Told.replace(y, 0, "k 0 1", "j 0 5");
        y.map(0, 5, 2);
        y.publish();
        Told.go(y);
        y.start(0, 0);
        y.step(0, 2);
        y.change('m', true, false, 200);
        due.same("back, none is mapped to it", 1, y.against());
        due.same("at", 2005, y.at(0, 0));
    }

    /** Mappings to places that are beyond the number of instructions are gone. */
    private void mappingsBeyondAreGone() {
        for (int place = 0; place <= 10; place++) {
            for (int left = 0; left <= 9; left++) {
                SwapWhile x = new SwapWhile();
                addConstants(x, 1);
                Told.publishAndGo(x);
                x.empty(0);
                addConstants(x, 2);
                x.map(0, place, 5);
                x.empty(0);
                for (int i = 0; i < left; i++) {
                    x.add(0, 'k', 0, 3, 0);
                }
                x.publish();
                toPlace(x, 0, place);
                x.change('m', false, false, 200);
                due.same("with " + left + " left", left >= 5 ? 2005 : 1000 + place, x.at(0, 0));
                due.same("queued", left >= 5 ? 0 : 1, x.queued());
            }
        }
    }

    // ---- giving up

    /** If it is still in the queue when as many steps have been made, it is dropped behind the last one. */
    private void patienceOfAnyNumber() {
        for (int patience : new int[] {1, 2, 3, 50, 98, 99, 100, 199, 200}) {
            for (char mode : new char[] {'w', 'm'}) {
                SwapWhile x = blocked();
                x.change(mode, false, false, patience);
                steps(x, patience - 1);
                due.same("behind one step less than " + patience, 'q', x.changed(1));
                due.same("queued", 1, x.queued());
                due.same("against", 1, x.against());
                steps(x, 1);
                due.same("behind " + patience, 'd', x.changed(1));
                due.same("queued", 0, x.queued());
                due.same("present", 1, x.present());
                end(x);
                due.same("it stays dropped", 'd', x.changed(1));
                due.same("present", 1, x.present());
            }
        }
        SwapWhile y = blocked();
        due.fails("a patience below", ARGUMENT, () -> y.change('w', false, false, 0));
        due.fails("a patience above", ARGUMENT, () -> y.change('w', false, false, 201));
    }

    /** Makes so many steps of the thread 1, whose function runs for ever and is not touched. */
    private void steps(SwapWhile x, int count) {
        int left = count;
        while (left > 0) {
            left -= x.step(1, Math.min(left, 99));
        }
    }

    /** As many steps have been made since it was asked for. */
    private void stepsSinceItWasAskedFor() {
        SwapWhile x = blocked();
        steps(x, 98);
        x.change('w', false, false, 4);
        steps(x, 2);
        x.change('w', false, false, 4);
        steps(x, 1);
        due.same("three steps and one", "qq", states(x, 1, 2));
        steps(x, 1);
        due.same("four steps and two", "dq", states(x, 1, 2));
        steps(x, 1);
        due.same("five steps and three", "dq", states(x, 1, 2));
        steps(x, 1);
        due.same("six steps and four", "dd", states(x, 1, 2));
    }

    /** After what can take effect has. */
    private void takesEffectBehindItsLastStep() {
        for (int patience = 1; patience <= 3; patience++) {
            SwapWhile x = blocked();
            x.change('w', false, false, patience);
            end(x);
            due.same("a frame that ends by the second step", patience >= 2 ? 'e' : 'd', x.changed(1));
            due.same("present", patience >= 2 ? 2 : 1, x.present());
        }
        SwapWhile y = blocked();
        y.change('w', false, false, 2);
        y.change('o', true, false, 2);
        y.change('w', true, false, 2);
        end(y);
        due.same("all that can", "eee", states(y, 1, 3));
        due.same("present", 0, y.present());
    }

    /** Wherever it is in the queue. */
    private void droppedWhereverItIs() {
        for (int less = 0; less < 3; less++) {
            SwapWhile x = blocked();
            for (int i = 0; i < 3; i++) {
                x.change('w', false, false, i == less ? 2 : 3);
            }
            steps(x, 1);
            due.same("behind one step", "qqq", states(x, 1, 3));
            steps(x, 1);
            due.same("behind two steps", 'd', x.changed(1 + less));
            due.same("queued", 2, x.queued());
            steps(x, 1);
            due.same("behind three steps", "ddd", states(x, 1, 3));
            due.same("queued", 0, x.queued());
        }
    }

    /** Then the queue is looked at again. */
    private void lookedAtAgain() {
        SwapWhile x = blocked();
        x.change('w', false, false, 2);
        x.change('o', false, false, 3);
        x.change('o', false, false, 3);
        steps(x, 1);
        due.same("behind one step", "qqq", states(x, 1, 3));
        steps(x, 1);
        due.same("behind two steps", "ded", states(x, 1, 3));
        due.same("present", 2, x.present());
        due.same("queued", 0, x.queued());
        SwapWhile y = blocked();
        y.change('w', false, false, 2);
        y.change('o', false, false, 2);
        steps(y, 2);
        due.same("what has lost its patience, too, is not", "dd", states(y, 1, 2));
        due.same("present", 1, y.present());
        SwapWhile z = blocked();
        z.change('w', false, false, 3);
        z.change('o', false, false, 2);
        steps(z, 2);
        due.same("the first stands as it did", "qd", states(z, 1, 2));
        due.same("against", 1, z.against());
    }

    /** Steps of all threads count, those that end or fail, too; calls that make none don't. */
    private void stepsThatCount() {
        SwapWhile x = blocked();
        x.start(2, 2);
        x.change('w', false, false, 3);
        due.same("no step while it waits", 0, x.step(0, 99));
        steps(x, 1);
        due.same("behind one step", 'q', x.changed(1));
        due.same("an end", 1, x.step(2, 99));
        due.same("behind two steps", 'q', x.changed(1));
        x.start(2, 2);
        x.release(0);
        x.publish();
        x.watch(9);
        due.same("behind calls that make no step", 'q', x.changed(1));
        due.same("a step of the third", 1, x.step(0, 1));
        due.same("behind three steps", 'd', x.changed(1));
        SwapWhile y = new SwapWhile();
        Told.add(y, 0, "w");
        Told.add(y, 1, "g 0 0 0");
        Told.publishAndGo(y);
        Told.add(y, 0, "w");
        y.publish();
        y.start(0, 0);
        y.start(1, 1);
        y.change('w', false, false, 1);
        due.same("a step that fails", 1, y.step(1, 99));
        due.same("behind it", 'd', y.changed(1));
    }

    // ---- the watch

    /** An amount that is put out and is greater than its limit. */
    private void limits() {
        for (int limit : new int[] {MIN, MIN + 1, -1, 0, 1, 8, MAX - 1, MAX}) {
            for (int amount : new int[] {MIN, MIN + 1, MIN + 2, -2, -1, 0, 1, 2, 7, 8, 9, MAX - 1, MAX}) {
                SwapWhile x = Told.machine("k 2 " + amount, "o 2", "w");
                due.same("a watch", false, x.watch(limit));
                due.same("watched", true, x.isWatched());
                x.start(0, 0);
                x.step(0, 3);
                boolean isGreater = amount > limit;
                due.same(amount + " with the limit " + limit, isGreater ? 0 : 1, x.present());
                due.same("watched", !isGreater, x.isWatched());
                due.same("put in any case", amount, x.putAt(0));
                int asked = isGreater ? 2 : 1;
                due.fails("no change more", INDEX, () -> x.changed(asked));
            }
        }
    }

    /** The watch is gone then. */
    private void goneBehindOne() {
        SwapWhile x = Told.machine("k 2 9", "o 2", "o 2");
        x.publish();
        Told.go(x);
        x.start(0, 0);
        due.same("none before", false, x.watch(8));
        due.same("one before", true, x.watch(8));
        x.step(0, 2);
        due.same("present", 1, x.present());
        due.same("gone", false, x.isWatched());
        x.step(0, 1);
        due.same("another amount", 1, x.present());
        due.same("none before", false, x.watch(8));
        due.same("a new one", true, x.isWatched());
        x.start(1, 0);
        x.step(1, 2);
        due.same("takes back again", 0, x.present());
    }

    /** A change back to the version before, with the mode 'o', not carrying at once; it has the next number. */
    private void asksForAChangeBack() {
        SwapWhile x = new SwapWhile();
        Told.add(x, 0, "n 1 0", "k 0 9", "w", "o 0", "w");
        Told.add(x, 1, "w");
        Told.publishAndGo(x);
        Told.replace(x, 1, "k 0 1");
        Told.publishAndGo(x);
        x.start(0, 0);
        x.step(0, 3);
        x.start(1, 1);
        x.watch(8);
        x.release(0);
        due.same("behind the step of the amount", 1, x.step(0, 1));
        due.same("present", 1, x.present());
        due.same("the next number", 'e', x.changed(2));
        due.fails("and none more", INDEX, () -> x.changed(3));
        due.same("frames are left", 2004, x.at(0, 0));
        due.same("frames are left", 2100, x.at(1, 0));
        due.same("objects are not carried", 2, x.shape(0));
        due.same("put in the version of its frame", 2, x.putIn(0));
        due.same("the next number of all", 3, x.change('o', true, false, 9));
    }

    /** Ahead of all others in the queue. */
    private void aheadOfAllOthers() {
        SwapWhile x = blocked();
        Told.add(x, 2, "k 0 9", "o 0", "w");
        x.publish();
        Told.go(x);
        Told.go(x);
        x.start(2, 2);
        Told.goBack(x);
        Told.goBack(x);
        x.change('w', false, false, 200);
        x.change('o', true, false, 200);
        due.same("they wait", "qq", states(x, 5, 6));
        x.watch(8);
        x.step(2, 2);
        due.same("all take effect behind it", "eee", states(x, 5, 7));
        due.same("to 0, to 1, and back to 0", 0, x.present());
        due.same("queued", 0, x.queued());
        due.same("what stood against them is left", 1001, x.at(0, 0));
    }

    /** Also if 30 were asked for. */
    private void alsoIfThirtyWereAskedFor() {
        for (int asked = 28; asked <= 30; asked++) {
            SwapWhile x = Told.machine("k 2 9", "o 2", "w");
            for (int number = 1; number < asked; number++) {
                due.same("number", number, x.change('o', false, false, 9));
            }
            x.watch(8);
            x.start(0, 0);
            x.step(0, 3);
            due.same("present", 0, x.present());
            due.same("the next number", 'e', x.changed(asked));
            int above = asked + 1;
            due.fails("and none more", INDEX, () -> x.changed(above));
            if (asked == 28) {
                due.same("one more", 29, x.change('o', false, false, 9));
            }
            due.fails("as 30 were asked for", STATE, () -> x.change('o', false, false, 9));
        }
    }

    /** What a watch asks for is asked for: it counts among the 30. */
    private void countsAmongThirty() {
        SwapWhile x = Told.machine("k 2 9", "o 2", "w");
        x.watch(8);
        x.start(0, 0);
        x.step(0, 3);
        due.same("the watch's change", 'e', x.changed(1));
        for (int number = 2; number < 30; number++) {
            due.same("number", number, x.change('o', false, false, 9));
        }
        due.fails("30 were asked for", STATE, () -> x.change('o', false, false, 9));
    }

    /** In the version 0, it is gone, too, and asks for nothing. */
    private void goneInVersionZero() {
        for (int amount : new int[] {7, 8, 9}) {
            SwapWhile x = Told.machine("k 2 " + amount, "o 2", "w");
            x.start(0, 0);
            Told.goBack(x);
            x.watch(8);
            x.step(0, 3);
            due.same("watched", amount <= 8, x.isWatched());
            due.same("present", 0, x.present());
            due.same("queued", 0, x.queued());
            due.fails("no change more", INDEX, () -> x.changed(2));
            due.same("the next number", 2, x.change('o', false, false, 9));
            due.same("put", amount, x.putAt(0));
        }
        SwapWhile y = Told.machine("k 2 9", "o 2", "w");
        y.start(0, 0);
        y.watch(8);
        y.step(0, 3);
        due.same("from the version 1 it leads to 0", 0, y.present());
    }
}
