/** The answers of the calls at their own edges: the least and the most that each can answer, and all between. */
public final class AnswersTest {
    private static final Class<IllegalArgumentException> ARGUMENT = IllegalArgumentException.class;
    private static final Class<IndexOutOfBoundsException> INDEX = IndexOutOfBoundsException.class;
    private static final Class<ArithmeticException> ARITHMETIC = ArithmeticException.class;

    private final Due due = new Due("AnswersTest");

    public static void main(String[] args) {
        AnswersTest test = new AnswersTest();
        test.drafts();
        test.threads();
        test.changes();
        test.figures();
        test.due.close();
    }

    private void drafts() {
        emptiedNumbers();
        fieldsBefore();
        carriesBefore();
        carriesAsAtFirstAgain();
        mappedNumbers();
        mappedPlacesOfTheDraftNow();
        publishedNumbers();
        touchedOfEachVersion();
    }

    private void threads() {
        presentAtStarts();
        stepsMade();
        framesReleased();
        highestPlaces();
        localsOfAllFrames();
    }

    private void changes() {
        framesAgainst();
        watches();
    }

    private void figures() {
        putsOfAll();
        fieldsInEachVersion();
        shares();
        means();
    }

    // ---- drafts

    /** Promise 3. */
    private void emptiedNumbers() {
        for (int function = 0; function < 5; function++) {
            for (int count = 0; count <= 10; count++) {
                SwapWhile x = new SwapWhile();
                for (int other = 0; other < 5; other++) {
                    x.add(other, 'w', 0, 0, 0);
                }
                x.empty(function);
                for (int i = 0; i < count; i++) {
                    due.same("add", i + 1, x.add(function, 'w', 0, 0, 0));
                }
                due.same("empty", count, x.empty(function));
                due.same("empty again", 0, x.empty(function));
                due.same("another", 1, x.empty((function + 1) % 5));
            }
        }
    }

    /** Promise 4. */
    private void fieldsBefore() {
        for (int kind = 0; kind < 3; kind++) {
            SwapWhile x = new SwapWhile();
            int before = 1;
            for (int fields : new int[] {1, 2, 3, 4, 4, 1, 3, 2}) {
                due.same("fields before", before, x.setFields(kind, fields));
                before = fields;
            }
            due.same("of another kind", 1, x.setFields((kind + 1) % 3, 1));
            x.publish();
            due.same("in the next draft", 2, x.setFields(kind, 2));
        }
    }

    /** Promise 5. */
    private void carriesBefore() {
        for (int kind = 0; kind < 3; kind++) {
            SwapWhile x = new SwapWhile();
            x.setFields(kind, 4);
            x.publish();
            for (int i = 0; i < 2; i++) {
                boolean isBack = i == 1;
                for (int field = 0; field < 4; field++) {
                    int before = field;
                    for (int from = -1; from < 4; from++) {
                        due.same("from before", before, x.setCarry(kind, isBack, field, from, 5));
                        before = from;
                    }
                    due.same("from before", 3, x.setCarry(kind, isBack, field, field, 0));
                }
            }
        }
        SwapWhile y = new SwapWhile();
        y.setFields(0, 2);
        due.same("a field that the old shape has not", -1, y.setCarry(0, false, 1, 0, 0));
        due.same("a field that it has", 0, y.setCarry(0, false, 0, -1, 0));
        due.same("back", 0, y.setCarry(0, true, 0, 1, 0));
        due.same("back, before", 1, y.setCarry(0, true, 0, 0, 0));
    }

    /** Promise 4: what was told of how they are carried is as at first then. */
    private void carriesAsAtFirstAgain() {
        for (int fields = 1; fields <= 4; fields++) {
            SwapWhile x = new SwapWhile();
            x.setFields(1, 2);
            Told.add(x, 0, "n 1 1", "k 0 5", "p 0 10 1", "k 0 6", "p 0 11 1", "w");
            Told.publishAndGo(x);
            x.start(0, 0);
            x.step(0, 99);
            x.setFields(0, 2);
            x.setCarry(0, false, 1, 0, 9);
            for (int field = 0; field < 2; field++) {
                x.setCarry(1, false, field, 1 - field, 100);
                x.setCarry(1, true, field, -1, 200);
            }
            due.same("fields before", 2, x.setFields(1, fields));
            due.same("of another kind", 0, x.setCarry(0, false, 1, -1, 0));
            x.publish();
            x.change('o', false, true, 9);
            int[] forward = {5, 6, 0, 0};
            for (int field = 0; field < fields; field++) {
                due.same("forward as at first", forward[field], x.field(0, field));
            }
            x.change('o', true, true, 9);
            due.same("back as at first", 5, x.field(0, 0));
            due.same("back as at first", fields > 1 ? 6 : 0, x.field(0, 1));
        }
    }

    /** Promise 6. */
    private void mappedNumbers() {
        for (int function = 0; function < 5; function++) {
            SwapWhile x = new SwapWhile();
            for (int i = 0; i < 10; i++) {
                x.add(function, 'w', 0, 0, 0);
            }
            x.publish();
            due.same("none", 0, x.map(function, 5, -1));
            for (int place = 0; place <= 10; place++) {
                due.same("mapped", place + 1, x.map(function, place, 10 - place));
                due.same("in place of an earlier one", place + 1, x.map(function, place, 3));
            }
            due.same("of another function", 1, x.map((function + 1) % 5, 0, 0));
            for (int place = 0; place <= 10; place++) {
                due.same("unmapped", 10 - place, x.map(function, place, -1));
                due.same("unmapped again", 10 - place, x.map(function, place, -1));
            }
            due.same("of another function", 1, x.map((function + 1) % 5, 0, 0));
        }
    }

    /** Promise 6: by their numbers of instructions now. */
    private void mappedPlacesOfTheDraftNow() {
        SwapWhile x = new SwapWhile();
        Told.add(x, 1, "w");
        x.publish();
        for (int count = 1; count <= 10; count++) {
            int last = count;
            due.same("the place behind the last one now", 1, x.map(1, 0, last));
            due.fails("a place above it", ARGUMENT, () -> x.map(1, 0, last + 1));
            if (count < 10) {
                x.add(1, 'w', 0, 0, 0);
            }
        }
        x.empty(1);
        due.fails("a place that is gone", ARGUMENT, () -> x.map(1, 1, 1));
        due.same("the only place that is left", 2, x.map(1, 1, 0));
        due.fails("ahead, a place above", ARGUMENT, () -> x.map(1, 2, 0));
        Told.add(x, 1, "w", "w");
        due.fails("ahead, as it was published", ARGUMENT, () -> x.map(1, 2, 0));
        x.publish();
        due.same("ahead, as it is published now", 1, x.map(1, 2, 0));
    }

    /** Promise 7. */
    private void publishedNumbers() {
        SwapWhile x = new SwapWhile();
        for (int version = 1; version <= 5; version++) {
            due.same("versions ahead of it", version, x.versions());
            due.same("publish", version, x.publish());
            due.same("versions", version + 1, x.versions());
            due.same("present", 0, x.present());
        }
        due.same("nothing was told", false, x.isTouched(4, 4));
    }

    /** Promise 8. */
    private void touchedOfEachVersion() {
        for (int touching = 1; touching <= 5; touching++) {
            SwapWhile x = new SwapWhile();
            for (int version = 1; version <= 5; version++) {
                if (version == touching) {
                    Told.add(x, version - 1, "w");
                }
                int last = version - 1;
                due.fails("no next one yet", INDEX, () -> x.isTouched(last, 0));
                x.publish();
            }
            for (int version = 0; version < 5; version++) {
                for (int function = 0; function < 5; function++) {
                    boolean want = version == touching - 1 && function == touching - 1;
                    due.same("touched", want, x.isTouched(version, function));
                }
            }
            due.fails("no next one", INDEX, () -> x.isTouched(5, 0));
        }
    }

    // ---- threads

    /** Promises 9 and 19. */
    private void presentAtStarts() {
        SwapWhile x = new SwapWhile();
        for (int version = 0; version <= 5; version++) {
            for (int thread = 0; thread < 3; thread++) {
                due.same("start", version, x.start(thread, thread + 2));
                due.same("state", 'r', x.state(thread));
                due.same("frames", 1, x.frames(thread));
                due.same("at", 1000 * version + 100 * (thread + 2), x.at(thread, 0));
                due.same("its end", 1, x.step(thread, 1));
            }
            due.same("present", version, x.present());
            if (version < 5) {
                Told.publishAndGo(x);
            }
        }
    }

    /** Promise 10. */
    private void stepsMade() {
        for (int asked : new int[] {1, 2, 3, 4, 5, 98, 99}) {
            SwapWhile x = Told.machine("k 0 1", "k 0 1", "k 0 1");
            x.start(0, 0);
            due.same("steps till the end", Math.min(asked, 4), x.step(0, asked));
            due.same("state", asked >= 4 ? 'd' : 'r', x.state(0));
            due.same("steps", (long) Math.min(asked, 4), x.steps());
            SwapWhile y = Told.machine("k 0 1", "j 0 0");
            y.start(0, 0);
            due.same("steps without an end", asked, y.step(0, asked));
            due.same("steps", (long) asked, y.steps());
            due.same("state", 'r', y.state(0));
        }
    }

    /** Promise 11. */
    private void framesReleased() {
        for (int depth = 1; depth <= 8; depth++) {
            SwapWhile x = waitingAt(depth);
            due.same("state", 'w', x.state(0));
            due.same("release", depth, x.release(0));
            due.same("frames", depth, x.frames(0));
            due.same("state", 'r', x.state(0));
        }
    }

    /** The function 0 calls itself; when it is deep enough, its thread is moved to where it waits. */
    private SwapWhile waitingAt(int depth) {
        SwapWhile x = Told.machine("c 0 0 0");
        Told.replace(x, 0, "w", "k 1 1");
        x.map(0, 0, 0);
        x.map(0, 1, 2);
        x.publish();
        x.start(0, 0);
        if (depth > 1) {
            x.step(0, depth - 1);
        }
        x.change('m', false, false, 9);
        x.step(0, 1);
        return x;
    }

    /** Promise 14. */
    private void highestPlaces() {
        SwapWhile x = new SwapWhile();
        Told.add(x, 4, "k 0 1", "j 0 10");
        for (int version = 1; version <= 5; version++) {
            Told.publishAndGo(x);
        }
        x.start(2, 4);
        due.same("at", 5400, x.at(2, 0));
        x.step(2, 2);
        due.same("at", 5410, x.at(2, 0));
        SwapWhile y = new SwapWhile();
        y.start(0, 0);
        due.same("at", 0, y.at(0, 0));
    }

    /** Promises 14 and 15. */
    private void localsOfAllFrames() {
        SwapWhile x = new SwapWhile();
        Told.add(x, 0, "k 1 1", "a 0 1", "k 2 10", "a 2 0", "k 3 20", "a 3 0", "c 0 0 1");
        Told.publishAndGo(x);
        x.start(1, 0);
        x.step(1, 7 * 7 + 6);
        due.same("frames", 8, x.frames(1));
        for (int frame = 0; frame < 8; frame++) {
            due.same("local 0", frame + 1, x.local(1, frame, 0));
            due.same("local 1", 1, x.local(1, frame, 1));
            due.same("local 2", frame + 11, x.local(1, frame, 2));
            due.same("local 3", frame + 21, x.local(1, frame, 3));
            due.same("at", frame < 7 ? 1007 : 1006, x.at(1, frame));
        }
        due.fails("a frame below", INDEX, () -> x.local(1, -1, 0));
        due.fails("a frame above", INDEX, () -> x.local(1, 8, 0));
        due.fails("a frame below", INDEX, () -> x.at(1, -1));
        due.fails("a frame above", INDEX, () -> x.at(1, 8));
    }

    // ---- changes

    /** Promise 21. */
    private void framesAgainst() {
        for (int depth = 1; depth <= 8; depth++) {
            for (int threads = 1; threads <= 3; threads++) {
                SwapWhile x = Told.machine("c 0 0 0");
                Told.replace(x, 0, "k 0 1");
                x.map(0, 0, 0);
                x.publish();
                for (int thread = 0; thread < threads; thread++) {
                    x.start(thread, 0);
                    if (depth > 1) {
                        x.step(thread, depth - 1);
                    }
                }
                if (depth > 1) {
                    x.change('m', false, false, 200);
                    due.same("all but the latest ones stand against it", (depth - 1) * threads, x.against());
                }
                SwapWhile y = fullOf(depth, threads);
                y.change('w', false, false, 200);
                due.same("all stand against it", depth * threads, y.against());
            }
        }
    }

    private SwapWhile fullOf(int depth, int threads) {
        SwapWhile x = Told.machine("c 0 0 0");
        Told.add(x, 0, "w");
        x.publish();
        for (int thread = 0; thread < threads; thread++) {
            x.start(thread, 0);
            if (depth > 1) {
                x.step(thread, depth - 1);
            }
        }
        return x;
    }

    /** Promises 22 and 23. */
    private void watches() {
        SwapWhile x = new SwapWhile();
        due.same("watched", false, x.isWatched());
        boolean before = false;
        for (int limit : new int[] {Integer.MIN_VALUE, -1, 0, 1, Integer.MAX_VALUE, 0}) {
            due.same("whether there was one", before, x.watch(limit));
            due.same("watched", true, x.isWatched());
            before = true;
        }
    }

    // ---- what is put out, objects, figures

    /** Promises 29 to 31. */
    private void putsOfAll() {
        SwapWhile x = Told.machine("k 0 1", "a 1 0", "o 1", "j 0 1");
        due.same("puts", 0, x.puts());
        due.fails("the first amount", INDEX, () -> x.putAt(0));
        due.fails("the first version", INDEX, () -> x.putIn(0));
        x.start(0, 0);
        x.step(0, 2);
        for (int count = 1; count <= 70; count++) {
            x.step(0, 1);
            int above = count;
            due.same("puts", count, x.puts());
            due.same("the first amount", 1, x.putAt(0));
            due.same("the last amount", count, x.putAt(count - 1));
            due.same("the last version", 1, x.putIn(count - 1));
            due.fails("an amount above", INDEX, () -> x.putAt(above));
            due.fails("a version above", INDEX, () -> x.putIn(above));
            due.fails("an amount below", INDEX, () -> x.putAt(-1));
            due.fails("a version below", INDEX, () -> x.putIn(-1));
            x.step(0, 2);
        }
    }

    /** Promise 27. */
    private void fieldsInEachVersion() {
        int[] fields = {1, 3, 4, 2, 1, 4};
        SwapWhile x = new SwapWhile();
        Told.add(x, 0, "n 0 2", "k 1 5", "p 1 20 0", "w");
        for (int version = 1; version <= 5; version++) {
            x.setFields(2, fields[version]);
            x.publish();
        }
        Told.go(x);
        x.start(0, 0);
        x.step(0, 99);
        for (int i = 0; i <= 5; i++) {
            int version = i;
            due.same("the first field", 5, x.fieldIn(0, version, 0));
            due.same("the last field", fields[version] == 1 ? 5 : 0, x.fieldIn(0, version, fields[version] - 1));
            due.fails("a field below", INDEX, () -> x.fieldIn(0, version, -1));
            due.fails("a field above", INDEX, () -> x.fieldIn(0, version, fields[version]));
        }
        due.fails("a version below", INDEX, () -> x.fieldIn(0, -1, 0));
        due.fails("a version above", INDEX, () -> x.fieldIn(0, 6, 0));
        due.same("the object is left as it is", 1, x.shape(0));
        due.same("its fields, too", 5, x.field(0, 0));
        due.same("as many", 0, x.field(0, 2));
    }

    /** Promise 33. */
    private void shares() {
        for (int all = 1; all <= 30; all++) {
            SwapWhile x = new SwapWhile();
            due.fails("no objects", ARITHMETIC, x::carriedShare);
            Told.add(x, 0, "n 0 0", "k 1 1", "j 1 0");
            Told.add(x, 1, "g 1 0 0", "k 1 1", "a 0 1", "j 1 0");
            Told.publishAndGo(x);
            x.start(0, 0);
            x.step(0, 3 * all - 2);
            due.same("all of them", 1.0f, x.carriedShare());
            x.publish();
            Told.go(x);
            due.same("none of them", 0.0f, x.carriedShare());
            x.start(1, 1);
            for (int carried = 1; carried <= all; carried++) {
                x.step(1, carried == 1 ? 1 : 4);
                due.same("share", (float) carried / (float) all, x.carriedShare());
            }
        }
    }

    /** Promise 34. */
    private void means() {
        for (int first = 0; first <= 8; first++) {
            for (int second = 0; second <= 8; second++) {
                for (int third = 0; third <= 8; third++) {
                    mean(first, second, third);
                }
            }
        }
    }

    private void mean(int... depths) {
        SwapWhile x = Told.machine("c 0 0 0");
        int sum = 0;
        int alive = 0;
        for (int thread = 0; thread < 3; thread++) {
            int depth = depths[thread];
            if (depth > 0) {
                x.start(thread, 0);
                alive++;
                sum += depth;
            }
            if (depth > 1) {
                x.step(thread, depth - 1);
            }
        }
        if (alive == 0) {
            due.fails("no thread is ready or waits", ARITHMETIC, x::meanFrames);
        } else {
            due.same("mean", (double) sum / (double) alive, x.meanFrames());
        }
    }
}
