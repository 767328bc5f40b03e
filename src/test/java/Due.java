/** Counts answers that are not as due, and tells them. */
final class Due {
    interface Call {
        Object run();
    }

    private static final int MOST_TOLD = 20;

    private final String name;
    private int checks;
    private int wrong;

    Due(String name) {
        this.name = name;
    }

    void same(String what, Object want, Object got) {
        checks++;
        if (!want.equals(got)) {
            wrong++;
            tell(what + " answered " + got + ", due is " + want);
        }
    }

    /** The exception's very class counts, and that the class threw it itself, not the library within. */
    void fails(String what, Class<? extends RuntimeException> want, Call call) {
        checks++;
        String got;
        try {
            got = "answered " + call.run();
        } catch (RuntimeException e) {
            if (e.getClass() == want && isThrownHere(e)) {
                return;
            }
            got = "threw " + e;
        }
        wrong++;
        tell(what + " " + got + ", due is " + want.getSimpleName());
    }

    void works(String what, Call call) {
        checks++;
        try {
            call.run();
        } catch (RuntimeException e) {
            wrong++;
            tell(what + " threw " + e + ", due is an answer");
        }
    }

    /** What the Java machine or the library throws has another place, or another text. */
    static boolean isThrownHere(Throwable e) {
        StackTraceElement[] trace = e.getStackTrace();
        return trace.length > 0 && trace[0].getClassName().startsWith("SwapWhile")
                && !"/ by zero".equals(e.getMessage());
    }

    /** An answer as a page shows it. */
    static String asWritten(Object answer) {
        return answer instanceof Character ? "'" + answer + "'" : String.valueOf(answer);
    }

    /** A fault in the ground of all would fill the screen: the first ones say enough. */
    private void tell(String text) {
        if (wrong <= MOST_TOLD) {
            System.out.println(name + ": " + text);
        }
    }

    void close() {
        System.out.println(name + ": " + checks + " checks, " + wrong + " not as due");
        if (wrong != 0 || checks == 0) {
            System.exit(1);
        }
    }
}
