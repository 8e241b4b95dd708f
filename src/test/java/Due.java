/** Counts and prints the answers that are not the ones that are due. */
final class Due {
    /** A call that may throw. */
    interface Call {
        void run();
    }

    private int asked = 0;
    private int wrong = 0;
    private String promise = "";

    void promise(String title) {
        promise = title;
    }

    void is(String call, long got, long want) {
        asked++;
        if (got != want) {
            wrong(call + " answered " + got + ", due is " + want);
        }
    }

    void is(String call, boolean got, boolean want) {
        asked++;
        if (got != want) {
            wrong(call + " answered " + got + ", due is " + want);
        }
    }

    void same(String call, Object got, Object want) {
        asked++;
        if (!got.equals(want)) {
            wrong(call + " answered " + got + ", due is " + want);
        }
    }

    void badPlace(String call, Call made) {
        throwing(call, IndexOutOfBoundsException.class, made);
    }

    void badArgument(String call, Call made) {
        throwing(call, IllegalArgumentException.class, made);
    }

    void badState(String call, Call made) {
        throwing(call, IllegalStateException.class, made);
    }

    /** Just that class is due, thrown by the program's own code, not by the machine or a library in it. */
    private void throwing(String call, Class<?> want, Call made) {
        asked++;
        Class<?> got = null;
        try {
            made.run();
        } catch (RuntimeException e) {
            got = e.getClass();
            StackTraceElement[] trace = e.getStackTrace();
            if (trace.length == 0 || !trace[0].getClassName().startsWith("Packstack")) {
                wrong(call + " did not throw itself");
            }
        }
        if (got != want) {
            wrong(call + " threw " + (got == null ? "nothing" : got.getName()) + ", due is " + want.getName());
        }
    }

    private void wrong(String text) {
        wrong++;
        if (wrong <= 50) {
            System.out.println(promise + ": " + text);
        }
    }

    int wrongs() {
        return wrong;
    }

    void close(String title) {
        System.out.println(title + ": " + asked + " answers asked, " + wrong + " wrong");
        if (wrong != 0 || asked == 0) {
            System.exit(1);
        }
    }
}
