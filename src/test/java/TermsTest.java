/** The document's 'Terms', sentence by sentence: each edge that one names, with a step below and above it. */
public final class TermsTest {
    private static final Class<IllegalArgumentException> ARGUMENT = IllegalArgumentException.class;
    private static final Class<IllegalStateException> STATE = IllegalStateException.class;
    private static final Class<IndexOutOfBoundsException> INDEX = IndexOutOfBoundsException.class;
    private static final int MIN = Integer.MIN_VALUE;
    private static final int MAX = Integer.MAX_VALUE;

    private final Due due = new Due("TermsTest");

    public static void main(String[] args) {
        TermsTest test = new TermsTest();
        test.versions();
        test.instructions();
        test.threads();
        test.objects();
        test.due.close();
    }

    private void versions() {
        lifeOfManyCalls();
        firstVersion();
        draftOnTopOfTheLatest();
        atMostSixVersions();
        atMostTenInstructions();
        oneToFourFields();
    }

    private void instructions() {
        localsAtFirst();
        constantsOfAnyInt();
        sumsGoRound();
        objectsNumbered();
        fieldsOfAllKinds();
        jumpsIfGreater();
        jumpsToAnyPlace();
        callsOfAll();
        callsByTheTable();
        returnsOfAll();
        putsOfAll();
        waitsAtAnyPlace();
        endsWithoutNext();
    }

    private void threads() {
        threadsOnTheirOwn();
        endsTakeAStep();
        framesOfStates();
        failsByObjectNumbers();
        failsByOtherKinds();
        failsByFieldNumbers();
        failsAheadOfCarrying();
        failsByTheThirtyFirstObject();
        failsByTheNinthFrame();
    }

    private void objects() {
        carriesAsAtFirst();
        carriesFromNone();
        carriesRound();
        carriesThroughAllVersions();
        carriesByUse();
        newObjectOfAnOldFrame();
    }

    private void tellsLocals(String what, SwapWhile x, int thread, int frame, int... want) {
        for (int local = 0; local < 4; local++) {
            due.same(what + ", local " + local, want[local], x.local(thread, frame, local));
        }
    }

    // ---- what it is, versions

    /** An object is used for at most 512 calls. */
    private void lifeOfManyCalls() {
        SwapWhile x = Told.machine("k 0 1", "o 0", "o 0", "o 0", "o 0", "o 0", "o 0", "o 0", "o 0", "j 0 1");
        int calls = 12;
        x.start(0, 0);
        calls++;
        int steps = 0;
        while (calls < 509) {
            steps += x.step(0, 99);
            calls++;
        }
        due.same("steps", 99 * 496, steps);
        due.same("steps of all", 99L * 496, x.steps());
        int puts = (99 * 496 - 1) / 9 * 8 + (99 * 496 - 1) % 9;
        due.same("puts", puts, x.puts());
        due.same("the last amount", 1, x.putAt(puts - 1));
    }

    /** There is the version 0 at first, which is present, without instructions, and with one field for each kind. */
    private void firstVersion() {
        SwapWhile x = new SwapWhile();
        due.same("versions", 1, x.versions());
        due.same("present", 0, x.present());
        for (int i = 0; i < 5; i++) {
            int function = i;
            due.same("present at a start", 0, x.start(0, function));
            due.same("steps without instructions", 1, x.step(0, 99));
            due.same("state", 'd', x.state(0));
            due.same("its only place", 1, x.map(function, 0, 0));
            due.fails("a place above", ARGUMENT, () -> x.map(function, 1, 0));
            due.fails("a place below", ARGUMENT, () -> x.map(function, -1, 0));
        }
        for (int i = 0; i < 3; i++) {
            int kind = i;
            due.same("its only field", 0, x.setCarry(kind, true, 0, 0, 0));
            due.fails("a field above", ARGUMENT, () -> x.setCarry(kind, true, 1, 0, 0));
            SwapWhile y = Told.machine("n 0 " + kind);
            y.start(0, 0);
            y.step(0, 1);
            due.same("its only field", 0, y.fieldIn(0, 0, 0));
            due.fails("a field above", INDEX, () -> y.fieldIn(0, 0, 1));
        }
    }

    /** A draft is told on top of the latest version, and becomes the next one when it is published. */
    private void draftOnTopOfTheLatest() {
        SwapWhile x = new SwapWhile();
        Told.add(x, 2, "w", "w");
        x.setFields(1, 3);
        due.same("publish", 1, x.publish());
        due.same("present stays", 0, x.present());
        due.same("a place of the latest", 1, x.map(2, 2, 2));
        due.fails("a place above", ARGUMENT, () -> x.map(2, 3, 0));
        due.same("fields of the latest", 3, x.setFields(1, 1));
        due.same("instructions of the latest", 3, x.add(2, 'w', 0, 0, 0));
        due.same("publish", 2, x.publish());
        due.same("instructions of the latest", 3, x.empty(2));
        due.same("fields of the latest", 1, x.setFields(1, 2));
        Told.go(x);
        x.start(0, 2);
        due.same("the version 1 has two", 2, stepsThroughWaits(x) - 1);
        Told.go(x);
        x.start(0, 2);
        due.same("the version 2 has three", 3, stepsThroughWaits(x) - 1);
        x.start(0, 2);
        due.same("the draft is no version", 2, x.present());
    }

    private int stepsThroughWaits(SwapWhile x) {
        int steps = x.step(0, 99);
        for (int i = 0; i < 12 && x.state(0) == 'w'; i++) {
            x.release(0);
            steps += x.step(0, 99);
        }
        return steps;
    }

    /** At most 6 versions are there. */
    private void atMostSixVersions() {
        SwapWhile x = new SwapWhile();
        for (int version = 1; version <= 5; version++) {
            Told.replace(x, 0, "k 0 " + version, "o 0");
            due.same("publish", version, x.publish());
            due.same("versions", version + 1, x.versions());
        }
        Told.replace(x, 0, "k 0 6", "o 0");
        due.fails("publish a seventh", STATE, x::publish);
        due.same("versions", 6, x.versions());
        for (int version = 1; version <= 5; version++) {
            Told.go(x);
            due.same("present", version, x.present());
            x.start(0, 0);
            x.step(0, 9);
            due.same("put by the version", version, x.putAt(version - 1));
            due.same("put in", version, x.putIn(version - 1));
        }
        Told.go(x);
        due.same("no version above", 'd', x.changed(5));
        due.same("present", 5, x.present());
    }

    /** In each version, each of the functions 0 to 4 has at most 10 instructions. */
    private void atMostTenInstructions() {
        SwapWhile x = new SwapWhile();
        for (int i = 0; i < 5; i++) {
            int function = i;
            for (int place = 0; place < 10; place++) {
                due.same("add", place + 1, x.add(function, 'k', place % 4, 10 * function + place, 0));
            }
            due.fails("an eleventh", STATE, () -> x.add(function, 'k', 0, 99, 0));
        }
        Told.publishAndGo(x);
        for (int function = 0; function < 5; function++) {
            x.start(0, function);
            due.same("steps", 10, x.step(0, 10));
            due.same("at the place behind the last one", 1010 + 100 * function, x.at(0, 0));
            int ten = 10 * function;
            tellsLocals("behind all", x, 0, 0, ten + 8, ten + 9, ten + 6, ten + 7);
            due.same("the end", 1, x.step(0, 99));
        }
        due.same("nine are left when one is emptied and told anew", 10, x.empty(4));
        for (int place = 1; place <= 9; place++) {
            due.same("add", place, x.add(4, 'w', 0, 0, 0));
        }
        due.same("a tenth", 10, x.add(4, 'w', 0, 0, 0));
        due.fails("an eleventh", STATE, () -> x.add(4, 'w', 0, 0, 0));
    }

    /** Each of the kinds 0 to 2 has 1 to 4 fields. */
    private void oneToFourFields() {
        for (int kind = 0; kind < 3; kind++) {
            for (int fields = 1; fields <= 4; fields++) {
                SwapWhile x = new SwapWhile();
                x.setFields(kind, fields);
                Told.add(x, 0, "n 0 " + kind);
                Told.publishAndGo(x);
                x.start(0, 0);
                x.step(0, 1);
                int above = fields;
                due.same("the first field", 0, x.field(0, 0));
                due.same("the last field", 0, x.field(0, fields - 1));
                due.fails("a field below", INDEX, () -> x.field(0, -1));
                due.fails("a field above", INDEX, () -> x.field(0, above));
                due.same("the draft has as many", fields, x.setFields(kind, 1));
            }
            int of = kind;
            SwapWhile y = new SwapWhile();
            due.fails("no fields", ARGUMENT, () -> y.setFields(of, 0));
            due.fails("five fields", ARGUMENT, () -> y.setFields(of, 5));
        }
    }

    // ---- instructions

    /** Locals are 0 at first but for the local 0 of a function that is called, which is its argument. */
    private void localsAtFirst() {
        SwapWhile x = new SwapWhile();
        Told.add(x, 0, "k 0 7", "c 1 0 1", "k 0 8", "s 2 1", "t 2 0 1", "w");
        Told.add(x, 1, "k 1 1", "k 2 2", "k 3 3", "r 0");
        Told.publishAndGo(x);
        x.start(0, 0);
        tellsLocals("started", x, 0, 0, 0, 0, 0, 0);
        x.step(0, 2);
        tellsLocals("called", x, 0, 1, 7, 0, 0, 0);
        x.step(0, 4 + 3);
        tellsLocals("called where another frame was", x, 0, 1, 8, 0, 0, 0);
        x.step(0, 5);
        x.release(0);
        x.step(0, 1);
        x.start(0, 1);
        tellsLocals("started where another frame was", x, 0, 0, 0, 0, 0, 0);
        SwapWhile y = Told.machine("k 0 1", "k 1 2", "k 2 3", "k 3 4", "g 0 0 0");
        y.start(0, 0);
        y.step(0, 5);
        y.start(0, 0);
        tellsLocals("started where one failed", y, 0, 0, 0, 0, 0, 0);
    }

    /** R a becomes b: the second number of 'k' is any int. */
    private void constantsOfAnyInt() {
        for (int number : new int[] {MIN, MIN + 1, -1, 0, 1, 4, 10, 11, MAX - 1, MAX}) {
            for (int local = 0; local < 4; local++) {
                SwapWhile x = Told.machine("k " + local + " " + number, "w");
                x.start(0, 0);
                x.step(0, 1);
                for (int other = 0; other < 4; other++) {
                    due.same("k " + local, other == local ? number : 0, x.local(0, 0, other));
                }
            }
        }
    }

    /** Sums go round as ints do. */
    private void sumsGoRound() {
        sum(MAX, 1, MIN);
        sum(MAX, 0, MAX);
        sum(MAX - 1, 1, MAX);
        sum(MIN, -1, MAX);
        sum(MIN, 0, MIN);
        sum(MIN + 1, -1, MIN);
        sum(MAX, MAX, -2);
        sum(MIN, MIN, 0);
        sum(MIN, MAX, -1);
        SwapWhile x = Told.machine("k 2 1073741823", "a 2 2", "k 3 1073741824", "a 3 3", "w");
        x.start(0, 0);
        x.step(0, 4);
        due.same("twice below the greatest", MAX - 1, x.local(0, 0, 2));
        due.same("twice above the greatest", MIN, x.local(0, 0, 3));
    }

    private void sum(int one, int other, int want) {
        SwapWhile x = Told.machine("k 1 " + one, "k 3 " + other, "a 1 3", "w");
        x.start(0, 0);
        x.step(0, 3);
        tellsLocals(one + " plus " + other, x, 0, 0, 0, want, 0, other);
    }

    /** The number of a new object of the kind b, whose fields are 0; objects are numbered from 0. */
    private void objectsNumbered() {
        SwapWhile x = new SwapWhile();
        for (int kind = 0; kind < 3; kind++) {
            x.setFields(kind, 2 + kind);
        }
        Told.add(x, 0, "k 0 5", "n 1 2", "n 2 1", "n 3 0", "n 0 2", "w");
        Told.publishAndGo(x);
        x.start(0, 0);
        x.step(0, 1);
        due.same("objects", 0, x.objects());
        for (int i = 0; i < 4; i++) {
            x.step(0, 1);
            due.same("objects", i + 1, x.objects());
        }
        tellsLocals("numbers", x, 0, 0, 3, 0, 1, 2);
        int[] fields = {4, 3, 2, 4};
        for (int object = 0; object < 4; object++) {
            int number = object;
            for (int field = 0; field < fields[object]; field++) {
                due.same("a field at first", 0, x.field(object, field));
            }
            due.fails("a field above", INDEX, () -> x.field(number, fields[number]));
        }
    }

    /** The field b % 10 of the object R c, which is of the kind b / 10. */
    private void fieldsOfAllKinds() {
        for (int kind = 0; kind < 3; kind++) {
            for (int field = 0; field < 4; field++) {
                SwapWhile x = new SwapWhile();
                x.setFields(kind, 4);
                int number = 10 * kind + field;
                Told.add(x, 0, "n 0 0", "n 1 " + kind, "k 3 77", "p 3 " + number + " 1", "g 2 " + number + " 1", "w");
                Told.publishAndGo(x);
                x.start(0, 0);
                due.same("steps", 6, x.step(0, 99));
                tellsLocals("got " + number, x, 0, 0, 0, 1, 77, 77);
                for (int other = 0; other < 4; other++) {
                    due.same("put " + number, other == field ? 77 : 0, x.field(1, other));
                }
                due.same("another object", 0, x.field(0, 0));
            }
        }
    }

    /** Goes on at the place b if R a is greater than 0. */
    private void jumpsIfGreater() {
        int[] numbers = {MIN, -1, 0, 1, 2, MAX};
        for (int number : numbers) {
            for (int local = 0; local < 4; local++) {
                SwapWhile x = Told.machine("k " + local + " " + number, "j " + local + " 4", "w", "w", "w");
                x.start(0, 0);
                x.step(0, 2);
                due.same("at, by " + number, number > 0 ? 1004 : 1002, x.at(0, 0));
            }
        }
    }

    /** Places 0 to 10; a function without a next instruction returns 0. */
    private void jumpsToAnyPlace() {
        for (int place = 0; place <= 10; place++) {
            SwapWhile x = Told.machine("k 0 1", "j 0 " + place, "w");
            x.start(0, 0);
            x.step(0, 2);
            due.same("at", 1000 + place, x.at(0, 0));
            due.same("one step more", 1, x.step(0, 1));
            char state = place < 2 ? 'r' : place == 2 ? 'w' : 'd';
            due.same("state behind the step at " + place, state, x.state(0));
            due.same("frames", state == 'd' ? 0 : 1, x.frames(0));
        }
        SwapWhile y = new SwapWhile();
        due.fails("a place below", ARGUMENT, () -> y.add(0, 'j', 0, -1, 0));
        due.fails("a place above", ARGUMENT, () -> y.add(0, 'j', 0, 11, 0));
    }

    /** Calls the function a with R b; R c becomes what it returns, R of the frame that called it. */
    private void callsOfAll() {
        for (int function = 0; function < 5; function++) {
            for (int from = 0; from < 4; from++) {
                for (int into = 0; into < 4; into++) {
                    callsOne("c " + function + " " + from + " " + into, 1, function, from, into);
                }
            }
        }
    }

    /** The same, with the function to which the entry a of the table points, from 0 to 3. */
    private void callsByTheTable() {
        for (int entry = 0; entry < 4; entry++) {
            for (int function = 0; function < 5; function++) {
                String point = "s " + entry + " " + function;
                SwapWhile x = callsOne(point + ";t " + entry + " " + (entry ^ 1) + " " + (entry ^ 2), 2, function,
                        entry ^ 1, entry ^ 2);
                for (int other = 0; other < 4; other++) {
                    due.same("entry " + other, other == entry ? function : 0, x.entry(other));
                }
            }
        }
    }

    private SwapWhile callsOne(String calls, int steps, int function, int from, int into) {
        SwapWhile x = new SwapWhile();
        int caller = (function + 1) % 5;
        Told.add(x, caller, "k 0 1", "k 1 2", "k 2 3", "k 3 4");
        Told.add(x, caller, calls.split(";"));
        Told.add(x, caller, "w");
        Told.add(x, function, "k 1 9", "a 0 0", "r 0");
        Told.publishAndGo(x);
        x.start(0, caller);
        x.step(0, 4 + steps);
        due.same(calls + " leads to", 1000 + 100 * function, x.at(0, 1));
        due.same(calls + " leaves its caller behind it", 1000 + 100 * caller + 4 + steps, x.at(0, 0));
        tellsLocals(calls + " called", x, 0, 1, from + 1, 0, 0, 0);
        x.step(0, 3);
        int[] want = {1, 2, 3, 4};
        want[into] = 2 * (from + 1);
        tellsLocals(calls + " returned", x, 0, 0, want);
        return x;
    }

    /** 'r' a: returns R a. */
    private void returnsOfAll() {
        for (int local = 0; local < 4; local++) {
            SwapWhile x = new SwapWhile();
            Told.add(x, 0, "k 2 99", "c 1 0 2", "w");
            Told.add(x, 1, "k 0 10", "k 1 11", "k 2 12", "k 3 13", "r " + local, "k 0 5");
            Told.publishAndGo(x);
            x.start(0, 0);
            x.step(0, 7);
            due.same("returned", 10 + local, x.local(0, 0, 2));
            due.same("frames", 1, x.frames(0));
        }
    }

    /** 'o' a: puts R a out. */
    private void putsOfAll() {
        SwapWhile x = Told.machine("k 0 -2147483648", "k 1 2147483647", "k 2 -1", "o 0", "o 1", "o 2", "o 3");
        x.start(0, 0);
        x.step(0, 99);
        int[] want = {MIN, MAX, -1, 0};
        for (int i = 0; i < 4; i++) {
            due.same("put", want[i], x.putAt(i));
        }
        due.same("puts", 4, x.puts());
    }

    /** Waits until the thread is released, and goes on behind it. */
    private void waitsAtAnyPlace() {
        for (int place = 0; place < 10; place++) {
            SwapWhile x = new SwapWhile();
            for (int i = 0; i < 10; i++) {
                Told.add(x, 0, i == place ? "w" : "k 1 " + i);
            }
            Told.publishAndGo(x);
            x.start(0, 0);
            due.same("steps till it waits", place + 1, x.step(0, 99));
            due.same("state", 'w', x.state(0));
            due.same("behind it", 1001 + place, x.at(0, 0));
            due.same("no step while it waits", 0, x.step(0, 99));
            due.same("release", 1, x.release(0));
            due.same("still behind it", 1001 + place, x.at(0, 0));
            due.same("the rest, and the end", 10 - place, x.step(0, 99));
        }
    }

    /** A function without a next instruction returns 0. */
    private void endsWithoutNext() {
        endsWith();
        endsWith("k 0 8");
        endsWith("k 0 8", "j 0 2");
        endsWith("k 0 8", "j 0 3");
        endsWith("k 0 8", "j 0 10");
    }

    private void endsWith(String... instructions) {
        SwapWhile x = new SwapWhile();
        Told.add(x, 0, "k 3 5", "c 4 3 3", "w");
        Told.add(x, 4, instructions);
        Told.publishAndGo(x);
        x.start(0, 0);
        x.step(0, 2 + instructions.length);
        due.same("ahead of the end", 5, x.local(0, 0, 3));
        due.same("frames", 2, x.frames(0));
        x.step(0, 1);
        due.same("what is returned", 0, x.local(0, 0, 3));
        due.same("frames", 1, x.frames(0));
    }

    // ---- threads

    /** The threads 0 to 2 run step by step, each step one instruction of its latest frame. */
    private void threadsOnTheirOwn() {
        SwapWhile x = Told.machine("k 0 1", "k 1 1", "k 2 1", "k 3 1");
        for (int thread = 0; thread < 3; thread++) {
            x.start(thread, 0);
        }
        for (int thread = 0; thread < 3; thread++) {
            due.same("steps", thread + 1, x.step(thread, thread + 1));
        }
        for (int thread = 0; thread < 3; thread++) {
            due.same("at", 1001 + thread, x.at(thread, 0));
            tellsLocals("thread " + thread, x, thread, 0, 1, thread > 0 ? 1 : 0, thread > 1 ? 1 : 0, 0);
        }
        due.fails("no thread below", ARGUMENT, () -> x.start(-1, 0));
        due.fails("no thread above", ARGUMENT, () -> x.start(3, 0));
    }

    /** Ending a function without a next instruction takes a step, too. */
    private void endsTakeAStep() {
        SwapWhile x = new SwapWhile();
        Told.add(x, 0, "c 1 0 0", "c 2 0 0");
        Told.add(x, 2, "r 0");
        Told.publishAndGo(x);
        x.start(0, 0);
        due.same("a call", 1, x.step(0, 1));
        due.same("frames", 2, x.frames(0));
        due.same("its end", 1, x.step(0, 1));
        due.same("frames", 1, x.frames(0));
        due.same("a call and its return", 2, x.step(0, 2));
        due.same("frames", 1, x.frames(0));
        due.same("state", 'r', x.state(0));
        due.same("the end of the first function alone", 1, x.step(0, 99));
        due.same("state", 'd', x.state(0));
        due.same("steps", 5L, x.steps());
        x.start(0, 2);
        due.same("a return takes no step more", 1, x.step(0, 99));
        due.same("state", 'd', x.state(0));
    }

    /** Only if it is ready or waits, it has frames. */
    private void framesOfStates() {
        SwapWhile x = new SwapWhile();
        Told.add(x, 0, "c 1 0 0");
        Told.add(x, 1, "w", "r 0");
        Told.add(x, 2, "c 3 0 0");
        Told.add(x, 3, "g 0 0 0");
        Told.publishAndGo(x);
        tellsState(x, 'n', 0);
        x.start(0, 0);
        tellsState(x, 'r', 1);
        x.step(0, 2);
        tellsState(x, 'w', 2);
        x.release(0);
        tellsState(x, 'r', 2);
        x.step(0, 1);
        tellsState(x, 'r', 1);
        x.step(0, 1);
        tellsState(x, 'd', 0);
        x.start(0, 2);
        x.step(0, 1);
        tellsState(x, 'r', 2);
        x.step(0, 1);
        tellsState(x, 'f', 0);
    }

    private void tellsState(SwapWhile x, char state, int frames) {
        due.same("state", state, x.state(0));
        due.same("frames", frames, x.frames(0));
        for (int frame = 0; frame < frames; frame++) {
            due.same("a frame is there", 1, x.at(0, frame) / 1000);
        }
        due.fails("a frame above", INDEX, () -> x.at(0, frames));
    }

    /** It fails if an object is none. */
    private void failsByObjectNumbers() {
        for (int objects : new int[] {0, 1, 2, 29, 30}) {
            for (int number : new int[] {MIN, -2, -1, 0, 1, 2, 28, 29, 30, 31, MAX}) {
                usesObject(objects, number, "g 2 0 1");
                usesObject(objects, number, "p 2 0 1");
            }
        }
    }

    private void usesObject(int objects, int number, String use) {
        SwapWhile x = new SwapWhile();
        Told.add(x, 0, "n 0 0", "k 1 1", "j 1 0");
        Told.add(x, 1, "k 1 " + number, use, "w");
        Told.publishAndGo(x);
        x.start(0, 0);
        if (objects > 0) {
            x.step(0, 3 * objects - 2);
        }
        x.start(1, 1);
        boolean isFine = number >= 0 && number < objects;
        String what = use + " with " + number + " of " + objects;
        due.same(what + ", steps", isFine ? 3 : 2, x.step(1, 99));
        due.same(what, isFine ? 'w' : 'f', x.state(1));
        due.same(what + ", frames", isFine ? 1 : 0, x.frames(1));
        due.same(what + ", objects", objects, x.objects());
        due.same(what + ", another thread", 'r', x.state(0));
    }

    /** It fails if an object is not of the kind. */
    private void failsByOtherKinds() {
        for (int kind = 0; kind < 3; kind++) {
            for (int used = 0; used < 3; used++) {
                for (char use : new char[] {'g', 'p'}) {
                    SwapWhile x = Told.machine("n 3 " + kind, use + " 0 " + 10 * used + " 3", "w");
                    x.start(0, 0);
                    x.step(0, 99);
                    due.same(use + " of " + kind + " as " + used, kind == used ? 'w' : 'f', x.state(0));
                }
            }
        }
    }

    /** It fails if the kind has no such field in the version of the frame. */
    private void failsByFieldNumbers() {
        for (int fields = 1; fields <= 4; fields++) {
            for (int field = 0; field < 4; field++) {
                for (char use : new char[] {'g', 'p'}) {
                    SwapWhile x = new SwapWhile();
                    x.setFields(1, fields);
                    Told.add(x, 0, "n 3 1", use + " 0 " + (10 + field) + " 3", "w");
                    Told.publishAndGo(x);
                    x.start(0, 0);
                    x.step(0, 99);
                    due.same(use + " " + field + " of " + fields, field < fields ? 'w' : 'f', x.state(0));
                }
            }
        }
    }

    /** The version of the frame counts, not that of the object, and is looked at ahead of carrying. */
    private void failsAheadOfCarrying() {
        SwapWhile x = new SwapWhile();
        x.setFields(0, 2);
        Told.add(x, 0, "n 0 0", "k 1 5", "p 1 1 0", "w", "g 2 1 0", "w");
        Told.add(x, 1, "g 1 1 0", "w");
        Told.add(x, 2, "g 1 2 0", "w");
        Told.publishAndGo(x);
        x.start(0, 0);
        x.step(0, 4);
        x.start(2, 2);
        x.setFields(0, 1);
        x.publish();
        x.setFields(0, 3);
        x.publish();
        Told.go(x);
        x.start(1, 1);
        due.same("one that the newer version has not", 1, x.step(1, 99));
        due.same("state", 'f', x.state(1));
        due.same("it is not carried", 1, x.shape(0));
        due.same("its field stays", 5, x.field(0, 1));
        x.change('o', false, true, 9);
        due.same("carried", 3, x.shape(0));
        due.same("one that the older version has not", 1, x.step(2, 99));
        due.same("state", 'f', x.state(2));
        due.same("it is not carried back", 3, x.shape(0));
        x.release(0);
        due.same("one that the older version has", 2, x.step(0, 99));
        due.same("it is carried back", 1, x.shape(0));
        x.start(1, 2);
        due.same("one that the newest version has", 2, x.step(1, 99));
        due.same("it is carried", 3, x.shape(0));
    }

    /** At most 30 objects are there; it fails if there would be more. */
    private void failsByTheThirtyFirstObject() {
        SwapWhile x = new SwapWhile();
        Told.add(x, 0, "n 0 0", "k 1 1", "j 1 0");
        Told.add(x, 1, "n 2 1", "w");
        Told.publishAndGo(x);
        x.start(0, 0);
        x.step(0, 3 * 29);
        due.same("objects", 29, x.objects());
        x.start(1, 1);
        due.same("the thirtieth, by another thread", 2, x.step(1, 99));
        due.same("objects", 30, x.objects());
        due.same("number", 29, x.local(1, 0, 2));
        x.start(2, 1);
        due.same("one more", 1, x.step(2, 99));
        due.same("state", 'f', x.state(2));
        due.same("one more by the first", 1, x.step(0, 99));
        due.same("state", 'f', x.state(0));
        due.same("one that makes none", 'w', x.state(1));
        due.same("objects", 30, x.objects());
        due.same("shape of the last", 1, x.shape(29));
        due.fails("shape of one more", INDEX, () -> x.shape(30));
    }

    /** It fails if there would be more than 8 frames; its frames are gone then. */
    private void failsByTheNinthFrame() {
        for (String call : new String[] {"c 1 0 1", "t 0 0 1"}) {
            SwapWhile x = new SwapWhile();
            Told.add(x, 0, "s 0 1", call, "w");
            Told.add(x, 1, "n 2 0", "j 3 4", call, "r 0", "w");
            Told.publishAndGo(x);
            x.start(0, 0);
            x.start(1, 0);
            x.step(0, 2 + 3 * 6);
            due.same("frames", 8, x.frames(0));
            due.same("state", 'r', x.state(0));
            x.step(1, 2 + 3 * 5 + 2);
            due.same("frames of another", 7, x.frames(1));
            due.same("up to the call", 2, x.step(0, 2));
            due.same("frames", 8, x.frames(0));
            due.same("the step that fails", 1, x.step(0, 99));
            due.same("state", 'f', x.state(0));
            due.same("frames", 0, x.frames(0));
            due.fails("the first frame", INDEX, () -> x.at(0, 0));
            due.same("frames of another", 7, x.frames(1));
            due.same("the eighth of another", 1, x.step(1, 1));
            due.same("frames of another", 8, x.frames(1));
        }
    }

    // ---- objects

    /** f is i if the old shape has such a field, or -1, and the number is 0, as long as nothing is told; back likewise. */
    private void carriesAsAtFirst() {
        for (int ahead = 1; ahead <= 4; ahead++) {
            for (int drafted = 1; drafted <= 4; drafted++) {
                SwapWhile x = withFields(ahead);
                x.setFields(0, drafted);
                x.publish();
                x.change('o', false, true, 9);
                for (int field = 0; field < drafted; field++) {
                    due.same("forward", field < ahead ? 10 + field : 0, x.field(0, field));
                }
                x.change('o', true, true, 9);
                for (int field = 0; field < ahead; field++) {
                    due.same("back", field < drafted ? 10 + field : 0, x.field(0, field));
                }
            }
        }
    }

    /** A machine in version 1 with an object of as many fields, which are 10 and on. */
    private SwapWhile withFields(int fields) {
        SwapWhile x = new SwapWhile();
        x.setFields(0, fields);
        Told.add(x, 0, "n 1 0");
        for (int field = 0; field < fields; field++) {
            Told.add(x, 0, "k 0 " + (10 + field), "p 0 " + field + " 1");
        }
        Told.add(x, 0, "w");
        Told.publishAndGo(x);
        x.start(0, 0);
        x.step(0, 99);
        return x;
    }

    /** What the field f of the old one is, or 0 if f is -1, plus a number. */
    private void carriesFromNone() {
        SwapWhile x = withFields(4);
        x.setCarry(0, false, 0, -1, 0);
        x.setCarry(0, false, 1, -1, 7);
        x.setCarry(0, false, 2, 3, -7);
        x.setCarry(0, false, 3, 0, 0);
        x.setCarry(0, true, 0, 0, 1);
        x.setCarry(0, true, 1, -1, -1);
        x.setCarry(0, true, 2, -1, 0);
        x.setCarry(0, true, 3, 1, 2);
        x.publish();
        tellsFields(x, 2, 0, 7, 6, 10);
        x.change('o', false, true, 9);
        tellsFields(x, 2, 0, 7, 6, 10);
        tellsFields(x, 1, 1, -1, 0, 9);
        x.change('o', true, true, 9);
        tellsFields(x, 1, 1, -1, 0, 9);
    }

    private void tellsFields(SwapWhile x, int version, int... want) {
        for (int field = 0; field < want.length; field++) {
            due.same("field " + field + " in " + version, want[field], x.fieldIn(0, version, field));
            if (x.shape(0) == version) {
                due.same("field " + field + " as it is kept", want[field], x.field(0, field));
            }
        }
        due.fails("a field above", INDEX, () -> x.fieldIn(0, version, want.length));
    }

    /** Sums go round as ints do, in carrying, too. */
    private void carriesRound() {
        SwapWhile x = withFields(3);
        x.setCarry(0, false, 0, 0, MAX - 10);
        x.setCarry(0, false, 1, 0, MAX - 9);
        x.setCarry(0, false, 2, -1, MAX);
        x.setCarry(0, true, 0, 0, 1);
        x.setCarry(0, true, 1, 1, -1);
        x.setCarry(0, true, 2, 2, MIN);
        x.publish();
        tellsFields(x, 2, MAX, MIN, MAX);
        x.change('m', false, true, 9);
        tellsFields(x, 2, MAX, MIN, MAX);
        tellsFields(x, 1, MIN, MAX, -1);
        x.change('m', true, true, 9);
        tellsFields(x, 1, MIN, MAX, -1);
    }

    /** It is carried to that version first, version by version, forward or back. */
    private void carriesThroughAllVersions() {
        SwapWhile x = new SwapWhile();
        Told.add(x, 0, "n 0 0", "k 1 10000", "p 1 0 0", "w");
        Told.add(x, 1, "g 1 0 0", "w");
        int ten = 1;
        for (int version = 1; version <= 5; version++) {
            x.setFields(0, version % 2 + 1);
            x.setCarry(0, false, 0, 0, ten);
            x.setCarry(0, true, 0, 0, 2 * ten);
            ten *= 10;
            x.publish();
        }
        Told.go(x);
        x.start(0, 0);
        x.step(0, 99);
        int[] want = {10002, 10000, 10010, 10110, 11110, 21110};
        for (int version = 0; version <= 5; version++) {
            due.same("in the version " + version, want[version], x.fieldIn(0, version, 0));
        }
        for (int version = 2; version <= 5; version++) {
            Told.go(x);
        }
        x.start(1, 1);
        x.step(1, 99);
        due.same("shape", 5, x.shape(0));
        due.same("carried over four", 21110, x.local(1, 0, 1));
        int[] back = {43332, 43330, 43310, 43110, 41110, 21110};
        for (int version = 0; version <= 5; version++) {
            due.same("back in the version " + version, back[version], x.fieldIn(0, version, 0));
        }
        x.change('o', true, false, 9);
        x.change('o', true, false, 9);
        x.change('o', true, false, 9);
        x.change('o', true, false, 9);
        x.change('o', true, true, 9);
        due.same("shape of the first version", 0, x.shape(0));
        due.same("carried back over five", back[0], x.field(0, 0));
        for (int version = 1; version < 5; version++) {
            Told.go(x);
        }
        x.change('o', false, true, 9);
        due.same("shape of the last version", 5, x.shape(0));
        due.same("carried over five", back[0] + 11111, x.field(0, 0));
    }

    /** When a frame of another version gets or puts a field, it is carried to that version first. */
    private void carriesByUse() {
        for (String use : new String[] {"g 1 0 0", "p 1 0 0"}) {
            SwapWhile x = Told.machine("n 0 0", "w", use, "w", use, "w");
            x.setCarry(0, false, 0, 0, 3);
            x.setCarry(0, true, 0, 0, 4);
            x.publish();
            x.start(0, 0);
            x.step(0, 2);
            x.release(0);
            x.step(0, 2);
            due.same("by a frame of its own", 1, x.shape(0));
            due.same("its field", 0, x.field(0, 0));
            x.change('o', false, true, 9);
            due.same("shape", 2, x.shape(0));
            due.same("its field", 3, x.field(0, 0));
            x.release(0);
            x.step(0, 1);
            due.same("by a frame of the version before", 1, x.shape(0));
            due.same("its field", use.charAt(0) == 'g' ? 7 : 0, x.field(0, 0));
            due.same("local", use.charAt(0) == 'g' ? 7 : 0, x.local(0, 0, 1));
        }
    }

    /** A new object has the shape of the version of its frame. */
    private void newObjectOfAnOldFrame() {
        SwapWhile x = new SwapWhile();
        x.setFields(0, 2);
        Told.add(x, 0, "w", "n 0 0", "w");
        Told.publishAndGo(x);
        x.setFields(0, 3);
        x.publish();
        x.start(0, 0);
        x.step(0, 1);
        Told.go(x);
        x.start(1, 0);
        x.step(1, 1);
        for (int thread = 0; thread < 2; thread++) {
            x.release(thread);
            x.step(thread, 1);
            due.same("shape", 1 + thread, x.shape(thread));
            int object = thread;
            due.same("the last field", 0, x.field(object, 1 + thread));
            due.fails("a field above", INDEX, () -> x.field(object, 2 + object));
        }
    }
}
