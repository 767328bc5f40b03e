/** A machine in some state, and what is known of it by hand. */
abstract class Scene {
    final String name;
    int versions = 1;
    int[] ahead = {0, 0, 0, 0, 0};
    int[] drafted = {0, 0, 0, 0, 0};
    int[] fieldsDrafted = {1, 1, 1};
    /** The numbers of fields by version and kind. */
    int[][] fields = {{1, 1, 1}};
    String states = "nnn";
    int[] frames = {0, 0, 0};
    int[] kinds = {};
    int[] shapes = {};
    int asked;
    int queued;
    int puts;

    Scene(String name) {
        this.name = name;
    }

    abstract SwapWhile make();

    int[] fieldsAhead() {
        return fields[versions - 1];
    }

    static Scene[] all() {
        return new Scene[] {new Fresh(), new Ended(), new Middle(), new Full()};
    }

    /** A new machine. */
    private static final class Fresh extends Scene {
        Fresh() {
            super("fresh");
        }

        @Override
        SwapWhile make() {
            return new SwapWhile();
        }
    }

    /** There is an object, but no thread is ready or waits. */
    private static final class Ended extends Scene {
        Ended() {
            super("ended");
            versions = 2;
            ahead = new int[] {1, 1, 0, 0, 0};
            drafted = ahead;
            fields = new int[][] {{1, 1, 1}, {1, 1, 1}};
            states = "dfn";
            kinds = new int[] {0};
            shapes = new int[] {1};
            asked = 1;
        }

        @Override
        SwapWhile make() {
            SwapWhile x = new SwapWhile();
            Told.add(x, 0, "n 1 0");
            Told.add(x, 1, "g 0 10 0");
            Told.publishAndGo(x);
            x.start(0, 0);
            x.start(1, 1);
            x.step(0, 2);
            x.step(1, 1);
            return x;
        }
    }

    /** Something of everything: a queue, a watch, threads, objects, and a draft with all that can be told. */
    private static final class Middle extends Scene {
        Middle() {
            super("middle");
            versions = 4;
            ahead = new int[] {7, 1, 1, 10, 0};
            drafted = new int[] {8, 0, 2, 10, 1};
            fieldsDrafted = new int[] {4, 2, 4};
            fields = new int[][] {{1, 1, 1}, {2, 4, 1}, {3, 1, 1}, {3, 1, 4}};
            states = "wrf";
            frames = new int[] {2, 8, 0};
            kinds = new int[] {0, 1, 2};
            shapes = new int[] {1, 1, 1};
            asked = 3;
            queued = 2;
            puts = 1;
        }

        @Override
        SwapWhile make() {
            SwapWhile x = new SwapWhile();
            x.setFields(0, 2);
            x.setFields(1, 4);
            Told.add(x, 0, "n 1 0", "n 2 1", "n 3 2", "o 3", "c 1 1 0", "w");
            Told.add(x, 1, "w", "r 0");
            Told.add(x, 2, "c 2 0 0");
            Told.add(x, 3, "w", "w", "w", "w", "w", "w", "w", "w", "w", "w");
            Told.add(x, 4, "g 0 20 0");
            Told.publishAndGo(x);
            runThreads(x);
            publishMore(x);
            x.change('w', false, false, 200);
            x.change('m', false, true, 100);
            tellDraft(x);
            x.watch(5);
            return x;
        }

        private void runThreads(SwapWhile x) {
            x.start(0, 0);
            x.step(0, 6);
            x.start(1, 2);
            x.step(1, 7);
            x.start(2, 4);
            x.step(2, 1);
        }

        private void publishMore(SwapWhile x) {
            x.setFields(0, 3);
            x.setFields(1, 1);
            x.setCarry(0, false, 2, 0, 3);
            Told.add(x, 0, "w");
            Told.replace(x, 1, "k 0 1");
            x.empty(4);
            x.map(0, 5, 7);
            x.publish();
            x.setFields(2, 4);
            x.publish();
        }

        private void tellDraft(SwapWhile x) {
            Told.add(x, 0, "k 0 5");
            x.empty(1);
            Told.add(x, 2, "w");
            Told.add(x, 4, "w");
            x.setFields(0, 4);
            x.setFields(1, 2);
            x.setCarry(0, false, 3, 1, 5);
            x.setCarry(1, true, 0, 1, 7);
            x.map(0, 1, 2);
            x.map(3, 10, 10);
        }
    }

    /** As many as there can be of all. */
    private static final class Full extends Scene {
        Full() {
            super("full");
            versions = 6;
            ahead = new int[] {3, 1, 0, 3, 0};
            drafted = new int[] {10, 10, 10, 10, 10};
            fieldsDrafted = new int[] {4, 1, 1};
            fields = new int[][] {{1, 1, 1}, {4, 1, 1}, {4, 1, 1}, {4, 1, 1}, {4, 1, 1}, {4, 1, 1}};
            states = "rwd";
            frames = new int[] {1, 1, 0};
            kinds = new int[30];
            shapes = new int[30];
            java.util.Arrays.fill(shapes, 2);
            asked = 30;
            puts = 2;
        }

        @Override
        SwapWhile make() {
            SwapWhile x = new SwapWhile();
            x.setFields(0, 4);
            Told.add(x, 0, "n 0 0", "k 1 1", "j 1 0");
            Told.add(x, 1, "w");
            Told.add(x, 3, "k 1 1", "o 1", "o 1");
            for (int i = 0; i < 5; i++) {
                x.publish();
            }
            x.change('o', false, false, 1);
            for (int i = 0; i < 14; i++) {
                x.change('o', false, false, 1);
                x.change('o', true, false, 1);
            }
            x.change('o', false, false, 1);
            x.start(0, 0);
            x.step(0, 88);
            x.start(1, 1);
            x.step(1, 1);
            x.start(2, 3);
            x.step(2, 9);
            for (int function = 0; function < 5; function++) {
                for (int i = ahead[function]; i < 10; i++) {
                    x.add(function, 'w', 0, 0, 0);
                }
            }
            return x;
        }
    }
}
