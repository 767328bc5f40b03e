/** Shorter words for what the tests tell a machine. */
final class Told {
    private Told() {
    }

    /** Adds instructions such as "k 1 7" to a function of the draft; numbers that are left out are 0. */
    static void add(SwapWhile machine, int function, String... instructions) {
        for (String instruction : instructions) {
            String[] words = instruction.split(" ");
            machine.add(function, words[0].charAt(0), number(words, 1), number(words, 2), number(words, 3));
        }
    }

    static void replace(SwapWhile machine, int function, String... instructions) {
        machine.empty(function);
        add(machine, function, instructions);
    }

    /** A machine in version 1, in which the function 0 is as told. */
    static SwapWhile machine(String... instructions) {
        SwapWhile machine = new SwapWhile();
        add(machine, 0, instructions);
        publishAndGo(machine);
        return machine;
    }

    static void publishAndGo(SwapWhile machine) {
        machine.publish();
        go(machine);
    }

    /** Leads to the next version at once, with no frame moved and no object carried. */
    static void go(SwapWhile machine) {
        machine.change('o', false, false, 1);
    }

    static void goBack(SwapWhile machine) {
        machine.change('o', true, false, 1);
    }

    /** All that can be seen of a machine, but for the draft. */
    static String all(SwapWhile machine) {
        StringBuilder text = new StringBuilder();
        text.append("present ").append(machine.present()).append(" of ").append(machine.versions());
        text.append(" steps ").append(machine.steps()).append(" watched ").append(machine.isWatched());
        tellTouched(machine, text);
        tellThreads(machine, text);
        tellChanges(machine, text);
        tellObjects(machine, text);
        text.append(" table");
        for (int i = 0; i < 4; i++) {
            text.append(' ').append(machine.entry(i));
        }
        text.append(" puts");
        for (int i = 0; i < machine.puts(); i++) {
            text.append(' ').append(machine.putAt(i)).append('/').append(machine.putIn(i));
        }
        return text.toString();
    }

    private static void tellTouched(SwapWhile machine, StringBuilder text) {
        text.append(" touched ");
        for (int version = 0; version < machine.versions() - 1; version++) {
            for (int function = 0; function < 5; function++) {
                text.append(machine.isTouched(version, function) ? 't' : '-');
            }
        }
    }

    private static void tellThreads(SwapWhile machine, StringBuilder text) {
        for (int thread = 0; thread < 3; thread++) {
            text.append(" thread ").append(machine.state(thread));
            for (int frame = 0; frame < machine.frames(thread); frame++) {
                text.append(" at ").append(machine.at(thread, frame));
                for (int local = 0; local < 4; local++) {
                    text.append(' ').append(machine.local(thread, frame, local));
                }
            }
        }
        try {
            text.append(" mean ").append(machine.meanFrames());
        } catch (ArithmeticException e) {
            text.append(" no mean");
        }
    }

    private static void tellChanges(SwapWhile machine, StringBuilder text) {
        text.append(" changes ");
        try {
            for (int i = 0; i < 1000; i++) {
                text.append(machine.changed(i));
            }
        } catch (IndexOutOfBoundsException e) {
            text.append('.');
        }
        text.append(" queued ").append(machine.queued());
        if (machine.queued() > 0) {
            text.append(" against ").append(machine.against());
        }
    }

    private static void tellObjects(SwapWhile machine, StringBuilder text) {
        for (int object = 0; object < machine.objects(); object++) {
            text.append(" object ").append(machine.shape(object));
            for (int field = 0; field < 4; field++) {
                try {
                    text.append(' ').append(machine.field(object, field));
                } catch (IndexOutOfBoundsException e) {
                    text.append(" x");
                }
            }
            for (int version = 0; version < machine.versions(); version++) {
                text.append(" in ").append(machine.fieldIn(object, version, 0));
            }
        }
        if (machine.objects() > 0) {
            text.append(" share ").append(machine.carriedShare());
        }
    }

    private static int number(String[] words, int index) {
        return index < words.length ? Integer.parseInt(words[index]) : 0;
    }
}
