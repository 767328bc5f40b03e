/** Counts answers that are not as due, and tells them. */
final class Due {
    interface Call {
        Object run();
    }

    private final String name;
    private int checks;
    private int wrong;

    Due(String name) {
        this.name = name;
    }

    void same(String what, Object want, Object got) {
        checks++;
        if (!want.equals(got)) {
            wrong++;
            System.out.println(name + ": " + what + " answered " + got + ", due is " + want);
        }
    }

    /** The exception's very class counts: a subclass of it is the machine's own. */
    void fails(String what, Class<? extends RuntimeException> want, Call call) {
        checks++;
        String got;
        try {
            got = "answered " + call.run();
        } catch (RuntimeException e) {
            if (e.getClass() == want) {
                return;
            }
            got = "threw " + e;
        }
        wrong++;
        System.out.println(name + ": " + what + " " + got + ", due is " + want.getSimpleName());
    }

    void close() {
        System.out.println(name + ": " + checks + " checks, " + wrong + " not as due");
        if (wrong != 0 || checks == 0) {
            System.exit(1);
        }
    }
}
