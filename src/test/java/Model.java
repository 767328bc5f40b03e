import java.util.ArrayList;
import java.util.HashMap;
import java.util.List;
import java.util.Map;
import java.util.NoSuchElementException;
import java.util.function.Predicate;

/** The document told once more, plainly and with the whole Java library, to be compared with the machine. */
public final class Model {
    private record Instruction(char kind, List<Integer> numbers) {
        int number(int index) {
            return numbers.get(index);
        }

        /** The kind of object that it works on, or -1. */
        int objectKind() {
            return kind == 'n' ? number(1) : kind == 'g' || kind == 'p' ? number(1) / 10 : -1;
        }
    }

    private record Source(int from, int number) {
    }

    private static final class Program {
        final List<List<Instruction>> functions = new ArrayList<>();
        final List<Integer> fields = new ArrayList<>();
        final List<List<Source>> forward = new ArrayList<>();
        final List<List<Source>> back = new ArrayList<>();
        final List<Map<Integer, Integer>> mappings = new ArrayList<>();
    }

    private static final class Place {
        int version;
        int function;
        int place;
        int resultLocal;
        int[] locals = new int[4];
    }

    private static final class Strand {
        char state = 'n';
        List<Place> frames = new ArrayList<>();
    }

    private static final class Thing {
        int kind;
        int version;
        List<Integer> values = new ArrayList<>();
    }

    private record Wish(int number, char mode, boolean isBack, boolean isAtOnce, int patience, long since) {
    }

    private final List<Program> programs = new ArrayList<>();
    private Program draft;
    private int present;
    private final Strand[] strands = {new Strand(), new Strand(), new Strand()};
    private final int[] table = new int[4];
    private final List<Thing> things = new ArrayList<>();
    private final List<int[]> amounts = new ArrayList<>();
    private final List<Character> wishStates = new ArrayList<>();
    private final List<Wish> queue = new ArrayList<>();
    private Integer limit;
    private long made;

    public Model() {
        Program first = new Program();
        for (int i = 0; i < 5; i++) {
            first.functions.add(new ArrayList<>());
        }
        for (int i = 0; i < 3; i++) {
            first.fields.add(1);
        }
        programs.add(first);
        beginDraft();
    }

    private static void check(boolean holds) {
        if (!holds) {
            throw new IllegalArgumentException();
        }
    }

    private static void allow(boolean holds) {
        if (!holds) {
            throw new IllegalStateException();
        }
    }

    private static void exists(boolean holds) {
        if (!holds) {
            throw new IndexOutOfBoundsException();
        }
    }

    private static boolean in(int number, int low, int high) {
        return low <= number && number <= high;
    }

    private Program ahead() {
        return programs.get(programs.size() - 1);
    }

    private void beginDraft() {
        draft = new Program();
        for (List<Instruction> function : ahead().functions) {
            draft.functions.add(new ArrayList<>(function));
            draft.mappings.add(new HashMap<>());
        }
        draft.fields.addAll(ahead().fields);
        for (int kind = 0; kind < 3; kind++) {
            draft.forward.add(sources(draft.fields.get(kind), ahead().fields.get(kind)));
            draft.back.add(sources(ahead().fields.get(kind), draft.fields.get(kind)));
        }
    }

    private static List<Source> sources(int comingOut, int goingIn) {
        List<Source> list = new ArrayList<>();
        for (int i = 0; i < comingOut; i++) {
            list.add(new Source(i < goingIn ? i : -1, 0));
        }
        return list;
    }

    public int add(int function, char kind, int a, int b, int c) {
        check(in(function, 0, 4));
        String shape = Map.ofEntries(Map.entry('k', "l#"), Map.entry('a', "ll"), Map.entry('n', "lk"),
                Map.entry('g', "ldl"), Map.entry('p', "ldl"), Map.entry('j', "lp"), Map.entry('c', "fll"),
                Map.entry('t', "ell"), Map.entry('s', "ef"), Map.entry('r', "l"), Map.entry('o', "l"),
                Map.entry('w', "")).get(kind);
        check(shape != null);
        int[] given = {a, b, c};
        List<Integer> numbers = new ArrayList<>();
        for (int i = 0; i < shape.length(); i++) {
            int n = given[i];
            switch (shape.charAt(i)) {
                case 'l', 'e' -> check(in(n, 0, 3));
                case 'k' -> check(in(n, 0, 2));
                case 'p' -> check(in(n, 0, 10));
                case 'f' -> check(in(n, 0, 4));
                case 'd' -> check(in(n, 0, 3) || in(n, 10, 13) || in(n, 20, 23));
                default -> { }
            }
            numbers.add(n);
        }
        List<Instruction> list = draft.functions.get(function);
        allow(list.size() < 10);
        list.add(new Instruction(kind, numbers));
        return list.size();
    }

    public int empty(int function) {
        check(in(function, 0, 4));
        int size = draft.functions.get(function).size();
        draft.functions.get(function).clear();
        return size;
    }

    public int setFields(int kind, int fields) {
        check(in(kind, 0, 2) && in(fields, 1, 4));
        int before = draft.fields.set(kind, fields);
        draft.forward.set(kind, sources(fields, ahead().fields.get(kind)));
        draft.back.set(kind, sources(ahead().fields.get(kind), fields));
        return before;
    }

    public int setCarry(int kind, boolean isBack, int field, int from, int number) {
        check(in(kind, 0, 2));
        Program out = isBack ? ahead() : draft;
        Program other = isBack ? draft : ahead();
        check(in(field, 0, out.fields.get(kind) - 1));
        check(in(from, -1, other.fields.get(kind) - 1));
        return (isBack ? draft.back : draft.forward).get(kind).set(field, new Source(from, number)).from();
    }

    public int map(int function, int place, int to) {
        check(in(function, 0, 4));
        check(in(place, 0, ahead().functions.get(function).size()));
        check(in(to, -1, draft.functions.get(function).size()));
        Map<Integer, Integer> mapping = draft.mappings.get(function);
        if (to == -1) {
            mapping.remove(place);
        } else {
            mapping.put(place, to);
        }
        return mapping.size();
    }

    public int publish() {
        allow(programs.size() < 6);
        for (int f = 0; f < 5; f++) {
            int size = draft.functions.get(f).size();
            draft.mappings.get(f).values().removeIf(to -> to > size);
        }
        programs.add(draft);
        beginDraft();
        return programs.size() - 1;
    }

    public boolean isTouched(int version, int function) {
        exists(version >= 0 && version + 1L < programs.size());
        check(in(function, 0, 4));
        return touched(version, version + 1, function);
    }

    private boolean touched(int one, int other, int function) {
        Program p = programs.get(one);
        Program q = programs.get(other);
        Predicate<Instruction> isChanged = i -> i.objectKind() >= 0
                && !p.fields.get(i.objectKind()).equals(q.fields.get(i.objectKind()));
        return !p.functions.get(function).equals(q.functions.get(function))
                || p.functions.get(function).stream().anyMatch(isChanged);
    }

    private static boolean lives(Strand strand) {
        return strand.state == 'r' || strand.state == 'w';
    }

    public int start(int thread, int function) {
        check(in(thread, 0, 2) && in(function, 0, 4));
        Strand strand = strands[thread];
        allow(!lives(strand));
        strand.state = 'r';
        strand.frames = new ArrayList<>(List.of(frame(function, 0, 0)));
        int answer = present;
        look();
        return answer;
    }

    private Place frame(int function, int argument, int resultLocal) {
        Place place = new Place();
        place.version = present;
        place.function = function;
        place.locals[0] = argument;
        place.resultLocal = resultLocal;
        return place;
    }

    public int step(int thread, int steps) {
        check(in(thread, 0, 2) && in(steps, 1, 99));
        int count = 0;
        for (; count < steps && strands[thread].state == 'r'; count++) {
            one(strands[thread]);
            made++;
            look();
            List<Wish> tired = queue.stream().filter(w -> made - w.since() >= w.patience()).toList();
            tired.forEach(w -> wishStates.set(w.number(), 'd'));
            queue.removeAll(tired);
            look();
        }
        return count;
    }

    private void fail(Strand strand) {
        strand.state = 'f';
        strand.frames = new ArrayList<>();
    }

    private void one(Strand strand) {
        Place frame = strand.frames.get(strand.frames.size() - 1);
        List<Instruction> code = programs.get(frame.version).functions.get(frame.function);
        if (frame.place >= code.size()) {
            end(strand, 0);
            return;
        }
        Instruction next = code.get(frame.place);
        frame.place += 1;
        int[] r = frame.locals;
        switch (next.kind()) {
            case 'k' -> r[next.number(0)] = next.number(1);
            case 'a' -> r[next.number(0)] = r[next.number(0)] + r[next.number(1)];
            case 'j' -> frame.place = r[next.number(0)] > 0 ? next.number(1) : frame.place;
            case 's' -> table[next.number(0)] = next.number(1);
            case 'w' -> strand.state = 'w';
            case 'r' -> end(strand, r[next.number(0)]);
            case 'c' -> call(strand, next.number(0), r[next.number(1)], next.number(2));
            case 't' -> call(strand, table[next.number(0)], r[next.number(1)], next.number(2));
            case 'n' -> create(strand, frame, next);
            case 'o' -> put(r[next.number(0)], frame.version);
            default -> use(strand, frame, next);
        }
    }

    private void end(Strand strand, int result) {
        Place ended = strand.frames.remove(strand.frames.size() - 1);
        if (strand.frames.isEmpty()) {
            strand.state = 'd';
        } else {
            strand.frames.get(strand.frames.size() - 1).locals[ended.resultLocal] = result;
        }
    }

    private void call(Strand strand, int function, int argument, int resultLocal) {
        if (strand.frames.size() == 8) {
            fail(strand);
        } else {
            strand.frames.add(frame(function, argument, resultLocal));
        }
    }

    private void create(Strand strand, Place frame, Instruction next) {
        if (things.size() == 30) {
            fail(strand);
            return;
        }
        Thing thing = new Thing();
        thing.kind = next.number(1);
        thing.version = frame.version;
        for (int i = 0; i < programs.get(frame.version).fields.get(thing.kind); i++) {
            thing.values.add(0);
        }
        frame.locals[next.number(0)] = things.size();
        things.add(thing);
    }

    private void use(Strand strand, Place frame, Instruction next) {
        int number = frame.locals[next.number(2)];
        int field = next.number(1) % 10;
        boolean is = number >= 0 && number < things.size()
                && things.get(number).kind == next.objectKind()
                && field < programs.get(frame.version).fields.get(next.objectKind());
        if (!is) {
            fail(strand);
            return;
        }
        Thing thing = things.get(number);
        carry(thing, frame.version);
        if (next.kind() == 'g') {
            frame.locals[next.number(0)] = thing.values.get(field);
        } else {
            thing.values.set(field, frame.locals[next.number(0)]);
        }
    }

    private void carry(Thing thing, int version) {
        thing.values = carried(thing, version);
        thing.version = version;
    }

    private List<Integer> carried(Thing thing, int version) {
        List<Integer> values = thing.values;
        int at = thing.version;
        while (at != version) {
            boolean isForward = at < version;
            Program step = programs.get(isForward ? at + 1 : at);
            List<Integer> next = new ArrayList<>();
            for (Source source : (isForward ? step.forward : step.back).get(thing.kind)) {
                next.add((source.from() < 0 ? 0 : values.get(source.from())) + source.number());
            }
            values = next;
            at += isForward ? 1 : -1;
        }
        return values;
    }

    private void put(int amount, int version) {
        amounts.add(new int[] {amount, version});
        if (limit != null && amount > limit) {
            limit = null;
            if (present > 0) {
                queue.add(0, new Wish(wishStates.size(), 'o', true, false, 50, made));
                wishStates.add('q');
            }
        }
    }

    public int release(int thread) {
        check(in(thread, 0, 2));
        allow(strands[thread].state == 'w');
        strands[thread].state = 'r';
        look();
        return strands[thread].frames.size();
    }

    public char state(int thread) {
        check(in(thread, 0, 2));
        return strands[thread].state;
    }

    public int frames(int thread) {
        check(in(thread, 0, 2));
        return strands[thread].frames.size();
    }

    public int at(int thread, int frame) {
        check(in(thread, 0, 2));
        exists(in(frame, 0, strands[thread].frames.size() - 1));
        Place place = strands[thread].frames.get(frame);
        return place.version * 1000 + place.function * 100 + place.place;
    }

    public int local(int thread, int frame, int local) {
        check(in(thread, 0, 2) && in(local, 0, 3));
        exists(in(frame, 0, strands[thread].frames.size() - 1));
        return strands[thread].frames.get(frame).locals[local];
    }

    public int change(char mode, boolean isBack, boolean isAtOnce, int patience) {
        check("wmo".indexOf(mode) >= 0 && in(patience, 1, 200));
        allow(wishStates.size() < 30);
        int number = wishStates.size();
        wishStates.add('q');
        queue.add(new Wish(number, mode, isBack, isAtOnce, patience, made));
        look();
        return number;
    }

    private void look() {
        while (!queue.isEmpty()) {
            Wish wish = queue.get(0);
            int target = present + (wish.isBack() ? -1 : 1);
            boolean hasTarget = in(target, 0, programs.size() - 1);
            if (hasTarget && !standing(wish, target).isEmpty()) {
                return;
            }
            queue.remove(0);
            wishStates.set(wish.number(), hasTarget ? 'e' : 'd');
            if (hasTarget) {
                take(wish, target);
            }
        }
    }

    private List<Place> presentFrames() {
        List<Place> list = new ArrayList<>();
        for (Strand strand : strands) {
            strand.frames.stream().filter(f -> f.version == present).forEach(list::add);
        }
        return list;
    }

    private List<Place> standing(Wish wish, int target) {
        return switch (wish.mode()) {
            case 'o' -> List.of();
            case 'w' -> presentFrames().stream().filter(f -> touched(present, target, f.function)).toList();
            default -> presentFrames().stream().filter(f -> touched(present, target, f.function))
                    .filter(f -> mapped(f, target) < 0).toList();
        };
    }

    private int mapped(Place frame, int target) {
        if (target > present) {
            return programs.get(target).mappings.get(frame.function).getOrDefault(frame.place, -1);
        }
        return programs.get(present).mappings.get(frame.function).entrySet().stream()
                .filter(e -> e.getValue() == frame.place).mapToInt(Map.Entry::getKey).min().orElse(-1);
    }

    private void take(Wish wish, int target) {
        if (wish.mode() != 'o') {
            for (Place frame : presentFrames()) {
                if (touched(present, target, frame.function)) {
                    frame.place = mapped(frame, target);
                }
                frame.version = target;
            }
        }
        present = target;
        if (wish.isAtOnce()) {
            things.forEach(thing -> carry(thing, target));
        }
    }

    public char changed(int change) {
        exists(in(change, 0, wishStates.size() - 1));
        return wishStates.get(change);
    }

    public int queued() {
        return queue.size();
    }

    public int present() {
        return present;
    }

    public int versions() {
        return programs.size();
    }

    public int against() {
        if (queue.isEmpty()) {
            throw new NoSuchElementException();
        }
        Wish first = queue.get(0);
        return standing(first, present + (first.isBack() ? -1 : 1)).size();
    }

    public boolean watch(int newLimit) {
        boolean was = limit != null;
        limit = newLimit;
        return was;
    }

    public boolean isWatched() {
        return limit != null;
    }

    public int objects() {
        return things.size();
    }

    public int shape(int object) {
        exists(in(object, 0, things.size() - 1));
        return things.get(object).version;
    }

    public int field(int object, int field) {
        exists(in(object, 0, things.size() - 1));
        exists(in(field, 0, things.get(object).values.size() - 1));
        return things.get(object).values.get(field);
    }

    public int fieldIn(int object, int version, int field) {
        exists(in(object, 0, things.size() - 1) && in(version, 0, programs.size() - 1));
        List<Integer> values = carried(things.get(object), version);
        exists(in(field, 0, values.size() - 1));
        return values.get(field);
    }

    public int entry(int entry) {
        exists(in(entry, 0, 3));
        return table[entry];
    }

    public int puts() {
        return amounts.size();
    }

    public int putAt(int index) {
        exists(in(index, 0, amounts.size() - 1));
        return amounts.get(index)[0];
    }

    public int putIn(int index) {
        exists(in(index, 0, amounts.size() - 1));
        return amounts.get(index)[1];
    }

    public long steps() {
        return made;
    }

    public float carriedShare() {
        if (things.isEmpty()) {
            throw new ArithmeticException();
        }
        return (float) things.stream().filter(thing -> thing.version == present).count() / (float) things.size();
    }

    public double meanFrames() {
        long count = java.util.Arrays.stream(strands).filter(Model::lives).count();
        if (count == 0) {
            throw new ArithmeticException();
        }
        return (double) java.util.Arrays.stream(strands).mapToInt(s -> s.frames.size()).sum() / (double) count;
    }
}
