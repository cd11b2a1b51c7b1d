/** What the tests compare with: prints every answer that is not the one due and counts it. */
final class Check {
    private static int wrong = 0;

    private Check() {
    }

    static void is(String what, int got, int due) {
        if (got != due) {
            report(what + " answered " + got + ", due is " + due);
        }
    }

    static void is(String what, boolean got, boolean due) {
        if (got != due) {
            report(what + " answered " + got + ", due is " + due);
        }
    }

    static void is(String what, String got, String due) {
        if (!got.equals(due)) {
            report(what + " answered\n" + got + "\ndue is\n" + due);
        }
    }

    /** The call throws just this exception and leaves all that can be seen of the frame as it was. */
    static void refuses(String what, Class<? extends RuntimeException> due, RouteFrame frame, Runnable call) {
        String before = Snapshot.of(frame);
        Class<?> got = null;
        try {
            call.run();
        } catch (RuntimeException e) {
            got = e.getClass();
        }
        if (got != due) {
            report(what + " threw " + (got == null ? "nothing" : got.getSimpleName())
                    + ", due is " + due.getSimpleName());
        }
        is("what is seen after " + what, Snapshot.of(frame), before);
    }

    static void refusesIndex(String what, RouteFrame frame, Runnable call) {
        refuses(what, IndexOutOfBoundsException.class, frame, call);
    }

    static void refusesArgument(String what, RouteFrame frame, Runnable call) {
        refuses(what, IllegalArgumentException.class, frame, call);
    }

    static void refusesState(String what, RouteFrame frame, Runnable call) {
        refuses(what, IllegalStateException.class, frame, call);
    }

    static void report(String text) {
        wrong++;
        System.out.println(text);
    }

    static void end() {
        if (wrong != 0) {
            System.out.println(wrong + " answers are not as due");
            System.exit(1);
        }
    }
}
