import java.util.ArrayList;
import java.util.Arrays;
import java.util.NoSuchElementException;

/** A machine whose program is changed while it runs. */
public final class SwapWhile {
    private static final int FUNCTIONS = 5;
    private static final int KINDS = 3;
    private static final int THREADS = 3;
    private static final int LOCALS = 4;
    private static final int ENTRIES = 4;
    private static final int FIELDS_AT_FIRST = 1;
    private static final int MOST_FIELDS = 4;
    private static final int MOST_INSTRUCTIONS = 10;
    private static final int PLACES = MOST_INSTRUCTIONS + 1;
    private static final int MOST_VERSIONS = 6;
    private static final int MOST_FRAMES = 8;
    private static final int MOST_OBJECTS = 30;
    private static final int MOST_CHANGES = 30;
    private static final int MOST_STEPS = 99;
    private static final int MOST_PATIENCE = 200;
    private static final int WATCH_PATIENCE = 50;

    // Answers are promised for so many calls: what is kept is bounded by them, and refused beyond.
    private static final int MOST_CALLS = 512;
    private static final int MOST_AMOUNTS = MOST_CALLS * MOST_STEPS;
    private static final int AMOUNTS_AT_FIRST = 16;

    // An instruction lies in a row as its kind and its three numbers.
    private static final int WIDTH = 4;
    // A field's number in an instruction is its kind times this, plus the field.
    private static final int FIELD_BASE = 10;
    private static final int NONE = -1;

    private static final char READY = 'r';
    private static final char WAITING = 'w';
    private static final char DONE = 'd';
    private static final char FAILED = 'f';
    private static final char NEVER_STARTED = 'n';

    private static final char WAITS = 'w';
    private static final char MOVES = 'm';
    private static final char LEAVES = 'o';

    private static final char QUEUED = 'q';
    private static final char EFFECTIVE = 'e';
    private static final char DROPPED = 'd';

    private final ArrayList<Version> published = new ArrayList<>();
    private Version draft;
    private int current;

    private final Task[] tasks = new Task[THREADS];
    private final int[] table = new int[ENTRIES];
    private long stepsMade;

    private final ArrayList<Item> items = new ArrayList<>();
    // One row for what is being carried and one to look ahead in, so that no call makes rows.
    private final int[] spareRow = new int[MOST_FIELDS];
    private final int[] trialRow = new int[MOST_FIELDS];

    private final Output output = new Output();

    private final ArrayList<Change> asked = new ArrayList<>();
    private final ArrayList<Change> queue = new ArrayList<>();
    private boolean hasWatch;
    private int watchLimit;

    public SwapWhile() {
        Version first = new Version();
        published.add(first);
        draft = new Version(first);
        for (int i = 0; i < THREADS; i++) {
            tasks[i] = new Task();
        }
    }

    // ---- drafts

    public int add(int function, char kind, int a, int b, int c)
            throws IllegalArgumentException, IllegalStateException {
        if (!isFunction(function) || !isInstruction(kind, a, b, c)) {
            throw new IllegalArgumentException("no such function or instruction");
        }
        if (draft.lengths[function] >= MOST_INSTRUCTIONS) {
            throw new IllegalStateException("the function is full");
        }
        draft.append(function, kind, a, b, c);
        return draft.lengths[function];
    }

    public int empty(int function) throws IllegalArgumentException {
        if (!isFunction(function)) {
            throw new IllegalArgumentException("no such function");
        }
        int before = draft.lengths[function];
        draft.lengths[function] = 0;
        return before;
    }

    public int setFields(int kind, int fields) throws IllegalArgumentException {
        if (!isKind(kind) || fields < 1 || fields > MOST_FIELDS) {
            throw new IllegalArgumentException("no such kind or number of fields");
        }
        int before = draft.fieldCounts[kind];
        draft.fieldCounts[kind] = fields;
        draft.resetCarry(kind, latest().fieldCounts[kind]);
        return before;
    }

    public int setCarry(int kind, boolean isBack, int field, int from, int number)
            throws IllegalArgumentException {
        if (!isKind(kind)) {
            throw new IllegalArgumentException("no such kind");
        }
        int drafted = draft.fieldCounts[kind];
        int ahead = latest().fieldCounts[kind];
        int comingOut = isBack ? ahead : drafted;
        int goingIn = isBack ? drafted : ahead;
        if (field < 0 || field >= comingOut || from < NONE || from >= goingIn) {
            throw new IllegalArgumentException("no such field");
        }
        Carry carry = isBack ? draft.back : draft.forward;
        int before = carry.from[kind][field];
        carry.from[kind][field] = from;
        carry.number[kind][field] = number;
        return before;
    }

    public int map(int function, int place, int to) throws IllegalArgumentException {
        if (!isFunction(function)) {
            throw new IllegalArgumentException("no such function");
        }
        boolean isPlaceAhead = place >= 0 && place <= latest().lengths[function];
        boolean isPlaceInDraft = to >= NONE && to <= draft.lengths[function];
        if (!isPlaceAhead || !isPlaceInDraft) {
            throw new IllegalArgumentException("no such place");
        }
        draft.mapping[function][place] = to;
        return draft.countMapped(function);
    }

    public int publish() throws IllegalStateException {
        if (published.size() >= MOST_VERSIONS) {
            throw new IllegalStateException("no more versions");
        }
        draft.close(latest());
        published.add(draft);
        draft = new Version(draft);
        return published.size() - 1;
    }

    public boolean isTouched(int version, int function)
            throws IndexOutOfBoundsException, IllegalArgumentException {
        if (version < 0 || version >= published.size() - 1) {
            throw new IndexOutOfBoundsException("no such version, or no next one");
        }
        if (!isFunction(function)) {
            throw new IllegalArgumentException("no such function");
        }
        return published.get(version + 1).touched[function];
    }

    // ---- threads

    public int start(int thread, int function) throws IllegalArgumentException, IllegalStateException {
        if (!isThread(thread) || !isFunction(function)) {
            throw new IllegalArgumentException("no such thread or function");
        }
        Task task = tasks[thread];
        if (task.isAlive()) {
            throw new IllegalStateException("the thread runs");
        }
        int before = current;
        task.state = READY;
        task.open(current, function, 0, 0);
        settleQueue();
        return before;
    }

    public int step(int thread, int steps) throws IllegalArgumentException {
        if (!isThread(thread) || steps < 1 || steps > MOST_STEPS) {
            throw new IllegalArgumentException("no such thread or number of steps");
        }
        Task task = tasks[thread];
        int made = 0;
        while (made < steps && task.state == READY) {
            makeStep(task);
            made++;
        }
        return made;
    }

    public int release(int thread) throws IllegalArgumentException, IllegalStateException {
        if (!isThread(thread)) {
            throw new IllegalArgumentException("no such thread");
        }
        Task task = tasks[thread];
        if (task.state != WAITING) {
            throw new IllegalStateException("the thread does not wait");
        }
        task.state = READY;
        settleQueue();
        return task.depth;
    }

    public char state(int thread) throws IllegalArgumentException {
        if (!isThread(thread)) {
            throw new IllegalArgumentException("no such thread");
        }
        return tasks[thread].state;
    }

    public int frames(int thread) throws IllegalArgumentException {
        if (!isThread(thread)) {
            throw new IllegalArgumentException("no such thread");
        }
        return tasks[thread].depth;
    }

    public int at(int thread, int frame) throws IllegalArgumentException, IndexOutOfBoundsException {
        if (!isThread(thread)) {
            throw new IllegalArgumentException("no such thread");
        }
        Task task = tasks[thread];
        if (frame < 0 || frame >= task.depth) {
            throw new IndexOutOfBoundsException("no such frame");
        }
        Frame found = task.stack[frame];
        return 1000 * found.version + 100 * found.function + found.place;
    }

    public int local(int thread, int frame, int local)
            throws IllegalArgumentException, IndexOutOfBoundsException {
        if (!isThread(thread) || !isLocal(local)) {
            throw new IllegalArgumentException("no such thread or local");
        }
        Task task = tasks[thread];
        if (frame < 0 || frame >= task.depth) {
            throw new IndexOutOfBoundsException("no such frame");
        }
        return task.stack[frame].locals[local];
    }

    // ---- changes

    public int change(char mode, boolean isBack, boolean isAtOnce, int patience)
            throws IllegalArgumentException, IllegalStateException {
        boolean isMode = mode == WAITS || mode == MOVES || mode == LEAVES;
        if (!isMode || patience < 1 || patience > MOST_PATIENCE) {
            throw new IllegalArgumentException("no such mode or patience");
        }
        if (asked.size() >= MOST_CHANGES) {
            throw new IllegalStateException("no more changes");
        }
        Change change = new Change(mode, isBack, isAtOnce, stepsMade + patience);
        int number = asked.size();
        asked.add(change);
        queue.add(change);
        settleQueue();
        return number;
    }

    public char changed(int change) throws IndexOutOfBoundsException {
        if (change < 0 || change >= asked.size()) {
            throw new IndexOutOfBoundsException("no such change");
        }
        return asked.get(change).state;
    }

    public int queued() {
        return queue.size();
    }

    public int present() {
        return current;
    }

    public int versions() {
        return published.size();
    }

    public int against() throws NoSuchElementException {
        if (queue.isEmpty()) {
            throw new NoSuchElementException("the queue is empty");
        }
        Change first = queue.get(0);
        int target = targetOf(first);
        return target == NONE ? 0 : countAgainst(first.mode, target);
    }

    public boolean watch(int limit) {
        boolean before = hasWatch;
        hasWatch = true;
        watchLimit = limit;
        return before;
    }

    public boolean isWatched() {
        return hasWatch;
    }

    // ---- objects, what is put out, figures

    public int objects() {
        return items.size();
    }

    public int shape(int object) throws IndexOutOfBoundsException {
        if (!isObject(object)) {
            throw new IndexOutOfBoundsException("no such object");
        }
        return items.get(object).shape;
    }

    public int field(int object, int field) throws IndexOutOfBoundsException {
        if (!isObject(object)) {
            throw new IndexOutOfBoundsException("no such object");
        }
        Item item = items.get(object);
        if (!hasField(item.shape, item.kind, field)) {
            throw new IndexOutOfBoundsException("no such field");
        }
        return item.row[field];
    }

    public int fieldIn(int object, int version, int field) throws IndexOutOfBoundsException {
        if (!isObject(object) || version < 0 || version >= published.size()) {
            throw new IndexOutOfBoundsException("no such object or version");
        }
        Item item = items.get(object);
        if (!hasField(version, item.kind, field)) {
            throw new IndexOutOfBoundsException("no such field");
        }
        System.arraycopy(item.row, 0, trialRow, 0, MOST_FIELDS);
        carryRow(trialRow, item.kind, item.shape, version);
        return trialRow[field];
    }

    public int entry(int entry) throws IndexOutOfBoundsException {
        if (!isEntry(entry)) {
            throw new IndexOutOfBoundsException("no such entry");
        }
        return table[entry];
    }

    public int puts() {
        return output.count;
    }

    public int putAt(int index) throws IndexOutOfBoundsException {
        if (index < 0 || index >= output.count) {
            throw new IndexOutOfBoundsException("no such amount");
        }
        return output.amounts[index];
    }

    public int putIn(int index) throws IndexOutOfBoundsException {
        if (index < 0 || index >= output.count) {
            throw new IndexOutOfBoundsException("no such amount");
        }
        return output.origins[index];
    }

    public long steps() {
        return stepsMade;
    }

    public float carriedShare() throws ArithmeticException {
        int all = items.size();
        if (all == 0) {
            throw new ArithmeticException("no objects");
        }
        int carried = 0;
        for (int i = 0; i < all; i++) {
            if (items.get(i).shape == current) {
                carried++;
            }
        }
        return (float) carried / (float) all;
    }

    public double meanFrames() throws ArithmeticException {
        int sum = 0;
        int alive = 0;
        for (Task task : tasks) {
            if (task.isAlive()) {
                alive++;
                sum += task.depth;
            }
        }
        if (alive == 0) {
            throw new ArithmeticException("no thread is ready or waits");
        }
        return (double) sum / (double) alive;
    }

    // ---- what numbers mean

    private static boolean isFunction(int number) {
        return number >= 0 && number < FUNCTIONS;
    }

    private static boolean isKind(int number) {
        return number >= 0 && number < KINDS;
    }

    private static boolean isThread(int number) {
        return number >= 0 && number < THREADS;
    }

    private static boolean isLocal(int number) {
        return number >= 0 && number < LOCALS;
    }

    private static boolean isEntry(int number) {
        return number >= 0 && number < ENTRIES;
    }

    private static boolean isPlace(int number) {
        return number >= 0 && number < PLACES;
    }

    private static boolean isKindWithField(int number) {
        return number >= 0 && number / FIELD_BASE < KINDS && number % FIELD_BASE < MOST_FIELDS;
    }

    private static boolean isInstruction(char kind, int a, int b, int c) {
        switch (kind) {
            case 'k':
            case 'r':
            case 'o':
                return isLocal(a);
            case 'a':
                return isLocal(a) && isLocal(b);
            case 'n':
                return isLocal(a) && isKind(b);
            case 'g':
            case 'p':
                return isLocal(a) && isKindWithField(b) && isLocal(c);
            case 'j':
                return isLocal(a) && isPlace(b);
            case 'c':
                return isFunction(a) && isLocal(b) && isLocal(c);
            case 't':
                return isEntry(a) && isLocal(b) && isLocal(c);
            case 's':
                return isEntry(a) && isFunction(b);
            case 'w':
                return true;
            default:
                return false;
        }
    }

    private static int countMeaningful(char kind) {
        switch (kind) {
            case 'w':
                return 0;
            case 'r':
            case 'o':
                return 1;
            case 'g':
            case 'p':
            case 'c':
            case 't':
                return 3;
            default:
                return 2;
        }
    }

    private boolean isObject(int number) {
        return number >= 0 && number < items.size();
    }

    private boolean hasField(int version, int kind, int field) {
        return field >= 0 && field < published.get(version).fieldCounts[kind];
    }

    private Version latest() {
        return published.get(published.size() - 1);
    }

    // ---- steps

    private void makeStep(Task task) {
        if (task.depth > 0) {
            runInstruction(task, task.stack[task.depth - 1]);
        }
        stepsMade++;
        settleQueue();
        if (giveUp()) {
            settleQueue();
        }
    }

    private void runInstruction(Task task, Frame frame) {
        Version version = published.get(frame.version);
        if (frame.place >= version.lengths[frame.function]) {
            task.giveBack(0);
            return;
        }
        int[] code = version.code[frame.function];
        int base = frame.place * WIDTH;
        char kind = (char) code[base];
        int a = code[base + 1];
        int b = code[base + 2];
        int c = code[base + 3];
        int[] locals = frame.locals;
        frame.place++;
        switch (kind) {
            case 'k':
                locals[a] = b;
                break;
            case 'a':
                locals[a] += locals[b];
                break;
            case 'n':
                makeObject(task, frame, a, b);
                break;
            case 'g':
            case 'p':
                useField(task, frame, kind == 'p', a, b, c);
                break;
            case 'j':
                if (locals[a] > 0) {
                    frame.place = b;
                }
                break;
            case 'c':
                task.open(current, a, locals[b], c);
                break;
            case 't':
                task.open(current, table[a], locals[b], c);
                break;
            case 's':
                table[a] = b;
                break;
            case 'r':
                task.giveBack(locals[a]);
                break;
            case 'o':
                putOut(locals[a], frame.version);
                break;
            default:
                task.state = WAITING;
                break;
        }
    }

    private void makeObject(Task task, Frame frame, int local, int kind) {
        if (items.size() >= MOST_OBJECTS) {
            task.fail();
            return;
        }
        frame.locals[local] = items.size();
        items.add(new Item(kind, frame.version));
    }

    private void useField(Task task, Frame frame, boolean isPut, int local, int kindWithField, int holder) {
        int kind = kindWithField / FIELD_BASE;
        int field = kindWithField % FIELD_BASE;
        int number = frame.locals[holder];
        if (!isObject(number) || items.get(number).kind != kind || !hasField(frame.version, kind, field)) {
            task.fail();
            return;
        }
        Item item = items.get(number);
        carryItem(item, frame.version);
        if (isPut) {
            item.row[field] = frame.locals[local];
        } else {
            frame.locals[local] = item.row[field];
        }
    }

    private void putOut(int amount, int version) {
        output.keep(amount, version);
        if (!hasWatch || amount <= watchLimit) {
            return;
        }
        hasWatch = false;
        // These are bounded too: each leads back from where one of the changes of a call led to.
        if (current > 0) {
            Change change = new Change(LEAVES, true, false, stepsMade + WATCH_PATIENCE);
            asked.add(change);
            queue.add(0, change);
        }
    }

    // ---- carrying

    private void carryItem(Item item, int version) {
        carryRow(item.row, item.kind, item.shape, version);
        item.shape = version;
    }

    private void carryRow(int[] row, int kind, int from, int to) {
        for (int version = from + 1; version <= to; version++) {
            published.get(version).forward.apply(kind, row, spareRow);
        }
        for (int version = from; version > to; version--) {
            published.get(version).back.apply(kind, row, spareRow);
        }
    }

    // ---- the queue

    private void settleQueue() {
        for (int left = queue.size(); left > 0; left--) {
            Change first = queue.get(0);
            int target = targetOf(first);
            if (target != NONE && countAgainst(first.mode, target) > 0) {
                return;
            }
            queue.remove(0);
            if (target == NONE) {
                first.state = DROPPED;
            } else {
                first.state = EFFECTIVE;
                takeEffect(first, target);
            }
        }
    }

    private int targetOf(Change change) {
        int target = change.isBack ? current - 1 : current + 1;
        return target < published.size() ? target : NONE;
    }

    private int countAgainst(char mode, int target) {
        int count = 0;
        for (Task task : tasks) {
            for (int i = 0; i < task.depth; i++) {
                Frame frame = task.stack[i];
                if (frame.version == current && placeIn(frame, mode, target) == NONE) {
                    count++;
                }
            }
        }
        return count;
    }

    /** The place at which a frame of the present version goes on by a change, or NONE if it stands against it. */
    private int placeIn(Frame frame, char mode, int target) {
        Version later = published.get(Math.max(current, target));
        if (mode == LEAVES || !later.touched[frame.function]) {
            return frame.place;
        }
        if (mode == WAITS) {
            return NONE;
        }
        return target > current
                ? later.placeAfter(frame.function, frame.place)
                : later.placeBefore(frame.function, frame.place);
    }

    private void takeEffect(Change change, int target) {
        if (change.mode != LEAVES) {
            moveFrames(change.mode, target);
        }
        current = target;
        if (change.isAtOnce) {
            for (int i = 0; i < items.size(); i++) {
                carryItem(items.get(i), target);
            }
        }
    }

    private void moveFrames(char mode, int target) {
        for (Task task : tasks) {
            for (int i = 0; i < task.depth; i++) {
                Frame frame = task.stack[i];
                if (frame.version == current) {
                    frame.place = placeIn(frame, mode, target);
                    frame.version = target;
                }
            }
        }
    }

    /** Drops all whose patience is at its end together, so that none of them profits from another's going. */
    private boolean giveUp() {
        boolean isAnyDropped = false;
        for (int i = queue.size() - 1; i >= 0; i--) {
            Change change = queue.get(i);
            if (change.lastStep <= stepsMade) {
                change.state = DROPPED;
                queue.remove(i);
                isAnyDropped = true;
            }
        }
        return isAnyDropped;
    }

    // ---- parts

    /** A version, or the draft of one, with what leads to it from the version ahead and back. */
    private static final class Version {
        private final int[] lengths = new int[FUNCTIONS];
        private final int[][] code = new int[FUNCTIONS][MOST_INSTRUCTIONS * WIDTH];
        private final int[] fieldCounts = new int[KINDS];
        private final Carry forward = new Carry();
        private final Carry back = new Carry();
        private final int[][] mapping = new int[FUNCTIONS][PLACES];
        private final boolean[] touched = new boolean[FUNCTIONS];

        private Version() {
            Arrays.fill(fieldCounts, FIELDS_AT_FIRST);
        }

        private Version(Version ahead) {
            System.arraycopy(ahead.lengths, 0, lengths, 0, FUNCTIONS);
            System.arraycopy(ahead.fieldCounts, 0, fieldCounts, 0, KINDS);
            for (int function = 0; function < FUNCTIONS; function++) {
                System.arraycopy(ahead.code[function], 0, code[function], 0, MOST_INSTRUCTIONS * WIDTH);
                Arrays.fill(mapping[function], NONE);
            }
            for (int kind = 0; kind < KINDS; kind++) {
                resetCarry(kind, ahead.fieldCounts[kind]);
            }
        }

        private void resetCarry(int kind, int fieldsAhead) {
            int shared = Math.min(fieldsAhead, fieldCounts[kind]);
            forward.reset(kind, shared);
            back.reset(kind, shared);
        }

        /** Numbers without a meaning are kept as 0, so that instructions do not differ by them. */
        private void append(int function, char kind, int a, int b, int c) {
            int base = lengths[function] * WIDTH;
            int meaningful = countMeaningful(kind);
            int[] row = code[function];
            row[base] = kind;
            row[base + 1] = meaningful >= 1 ? a : 0;
            row[base + 2] = meaningful >= 2 ? b : 0;
            row[base + 3] = meaningful >= 3 ? c : 0;
            lengths[function]++;
        }

        private int countMapped(int function) {
            int count = 0;
            for (int to : mapping[function]) {
                if (to != NONE) {
                    count++;
                }
            }
            return count;
        }

        private int placeAfter(int function, int place) {
            return isPlace(place) ? mapping[function][place] : NONE;
        }

        private int placeBefore(int function, int place) {
            for (int before = 0; before < PLACES; before++) {
                if (mapping[function][before] == place) {
                    return before;
                }
            }
            return NONE;
        }

        private void close(Version ahead) {
            for (int function = 0; function < FUNCTIONS; function++) {
                for (int place = 0; place < PLACES; place++) {
                    if (mapping[function][place] > lengths[function]) {
                        mapping[function][place] = NONE;
                    }
                }
                touched[function] = differs(ahead, function);
            }
        }

        private boolean differs(Version ahead, int function) {
            if (lengths[function] != ahead.lengths[function]) {
                return true;
            }
            int[] mine = code[function];
            int[] theirs = ahead.code[function];
            for (int i = 0; i < lengths[function] * WIDTH; i++) {
                if (mine[i] != theirs[i]) {
                    return true;
                }
            }
            return usesChangedKind(ahead, function);
        }

        private boolean usesChangedKind(Version ahead, int function) {
            for (int place = 0; place < lengths[function]; place++) {
                int kind = kindUsed(code[function], place * WIDTH);
                if (kind != NONE && fieldCounts[kind] != ahead.fieldCounts[kind]) {
                    return true;
                }
            }
            return false;
        }

        private static int kindUsed(int[] row, int base) {
            switch (row[base]) {
                case 'n':
                    return row[base + 2];
                case 'g':
                case 'p':
                    return row[base + 2] / FIELD_BASE;
                default:
                    return NONE;
            }
        }
    }

    /** From which field each field of a shape comes out, and what is added; 0 for fields beyond the shape. */
    private static final class Carry {
        private final int[][] from = new int[KINDS][MOST_FIELDS];
        private final int[][] number = new int[KINDS][MOST_FIELDS];

        private void reset(int kind, int shared) {
            for (int field = 0; field < MOST_FIELDS; field++) {
                from[kind][field] = field < shared ? field : NONE;
                number[kind][field] = 0;
            }
        }

        private void apply(int kind, int[] row, int[] spare) {
            for (int field = 0; field < MOST_FIELDS; field++) {
                int source = from[kind][field];
                spare[field] = (source == NONE ? 0 : row[source]) + number[kind][field];
            }
            System.arraycopy(spare, 0, row, 0, MOST_FIELDS);
        }
    }

    /** A thread; its frames are made once and used again. */
    private static final class Task {
        private char state = NEVER_STARTED;
        private int depth;
        private final Frame[] stack = new Frame[MOST_FRAMES];

        private Task() {
            for (int i = 0; i < MOST_FRAMES; i++) {
                stack[i] = new Frame();
            }
        }

        private boolean isAlive() {
            return state == READY || state == WAITING;
        }

        private void open(int version, int function, int argument, int into) {
            if (depth >= MOST_FRAMES) {
                fail();
                return;
            }
            stack[depth].begin(version, function, argument, into);
            depth++;
        }

        private void giveBack(int value) {
            if (depth <= 1) {
                depth = 0;
                state = DONE;
                return;
            }
            depth--;
            stack[depth - 1].locals[stack[depth].into] = value;
        }

        private void fail() {
            depth = 0;
            state = FAILED;
        }
    }

    private static final class Frame {
        private int version;
        private int function;
        private int place;
        // Kept here and not read from the call's instruction: the caller may have been moved away from it.
        private int into;
        private final int[] locals = new int[LOCALS];

        private void begin(int inVersion, int ofFunction, int argument, int resultInto) {
            version = inVersion;
            function = ofFunction;
            place = 0;
            into = resultInto;
            Arrays.fill(locals, 0);
            locals[0] = argument;
        }
    }

    /** An object of the machine. */
    private static final class Item {
        private final int kind;
        private int shape;
        private final int[] row = new int[MOST_FIELDS];

        private Item(int ofKind, int inVersion) {
            kind = ofKind;
            shape = inVersion;
        }
    }

    private static final class Change {
        private final char mode;
        private final boolean isBack;
        private final boolean isAtOnce;
        // The step behind which it is dropped if it is still in the queue.
        private final long lastStep;
        private char state = QUEUED;

        private Change(char inMode, boolean leadsBack, boolean carriesAtOnce, long lastStepMade) {
            mode = inMode;
            isBack = leadsBack;
            isAtOnce = carriesAtOnce;
            lastStep = lastStepMade;
        }
    }

    /** What was put out. */
    private static final class Output {
        private int[] amounts = new int[AMOUNTS_AT_FIRST];
        private int[] origins = new int[AMOUNTS_AT_FIRST];
        private int count;

        private void keep(int amount, int version) {
            if (count >= MOST_AMOUNTS) {
                return;
            }
            if (count >= amounts.length) {
                amounts = Arrays.copyOf(amounts, amounts.length * 2);
                origins = Arrays.copyOf(origins, origins.length * 2);
            }
            amounts[count] = amount;
            origins[count] = version;
            count++;
        }
    }
}
