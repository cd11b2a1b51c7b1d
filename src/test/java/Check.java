/** What the tests compare with: prints every answer that is not the one due and counts it. */
final class Check {
    private static int wrong = 0;
    private static String sentence = "";

    private Check() {
    }

    /** One test of its own for one sentence of the document; its failures are told under that sentence. */
    static void that(String itsSentence, Runnable test) {
        sentence = itsSentence;
        try {
            test.run();
        } catch (RuntimeException e) {
            report("the test was ended by " + e);
        }
        sentence = "";
    }

    static void is(String what, int got, int due) {
        if (got != due) {
            report(what + " answered " + got + ", due is " + due);
        }
    }

    static void is(String what, boolean got, boolean due) {
        if (got != due) {
            report(what + " answered " + got + ", due is " + due);
        }
    }

    static void is(String what, String got, String due) {
        if (!got.equals(due)) {
            report(what + " answered\n" + got + "\ndue is\n" + due);
        }
    }

    /** The call throws just this exception and leaves all that can be seen of the frame as it was. */
    static void refuses(String what, Class<? extends RuntimeException> due, RouteFrame frame, Runnable call) {
        String before = Snapshot.of(frame);
        raises(what, due, call);
        is("what is seen after " + what, Snapshot.of(frame), before);
    }

    /** The call throws just this exception. */
    static void raises(String what, Class<? extends RuntimeException> due, Runnable call) {
        Class<?> got = null;
        try {
            call.run();
        } catch (RuntimeException e) {
            got = e.getClass();
        }
        if (got != due) {
            report(what + " threw " + (got == null ? "nothing" : got.getSimpleName())
                    + ", due is " + due.getSimpleName());
        }
    }

    static void refusesIndex(String what, RouteFrame frame, Runnable call) {
        refuses(what, IndexOutOfBoundsException.class, frame, call);
    }

    static void refusesArgument(String what, RouteFrame frame, Runnable call) {
        refuses(what, IllegalArgumentException.class, frame, call);
    }

    static void refusesState(String what, RouteFrame frame, Runnable call) {
        refuses(what, IllegalStateException.class, frame, call);
    }

    static void raisesIndex(String what, Runnable call) {
        raises(what, IndexOutOfBoundsException.class, call);
    }

    static void raisesArgument(String what, Runnable call) {
        raises(what, IllegalArgumentException.class, call);
    }

    static void raisesState(String what, Runnable call) {
        raises(what, IllegalStateException.class, call);
    }

    static void report(String text) {
        wrong++;
        System.out.println(sentence.isEmpty() ? text : "\"" + sentence + "\": " + text);
    }

    static void end() {
        if (wrong != 0) {
            System.out.println(wrong + " answers are not as due");
            System.exit(1);
        }
    }
}
