/** Shorter words for what the tests tell a machine. */
final class Told {
    private Told() {
    }

    /** Adds instructions such as "k 1 7" to a function of the draft; numbers that are left out are 0. */
    static void add(SwapWhile machine, int function, String... instructions) {
        for (String instruction : instructions) {
            String[] words = instruction.split(" ");
            machine.add(function, words[0].charAt(0), number(words, 1), number(words, 2), number(words, 3));
        }
    }

    static void replace(SwapWhile machine, int function, String... instructions) {
        machine.empty(function);
        add(machine, function, instructions);
    }

    /** A machine in version 1, in which the function 0 is as told. */
    static SwapWhile machine(String... instructions) {
        SwapWhile machine = new SwapWhile();
        add(machine, 0, instructions);
        publishAndGo(machine);
        return machine;
    }

    static void publishAndGo(SwapWhile machine) {
        machine.publish();
        go(machine);
    }

    /** Leads to the next version at once, with no frame moved and no object carried. */
    static void go(SwapWhile machine) {
        machine.change('o', false, false, 1);
    }

    static void goBack(SwapWhile machine) {
        machine.change('o', true, false, 1);
    }

    private static int number(String[] words, int index) {
        return index < words.length ? Integer.parseInt(words[index]) : 0;
    }
}
