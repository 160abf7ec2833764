/** Counts the calls whose answer is not the one that is due, and prints them. */
final class Checks {
    /** A call of a ring. */
    interface Call {
        int on(DyeRing ring);
    }

    /** Makes a ring and brings it into a state. */
    interface Maker {
        DyeRing make();
    }

    private int calls = 0;
    private int wrong = 0;
    private String promise = "";

    void begin(String name) {
        promise = name;
    }

    /** What a call answers, as a text: the number, or the exception's name behind "throws.". */
    static String outcome(DyeRing ring, Call call) {
        try {
            return Integer.toString(call.on(ring));
        } catch (RuntimeException e) {
            return "throws." + e.getClass().getName() + (isThrownByRing(e) ? "" : " not by a throw of its own");
        }
    }

    /** A list's get throws what the document names too, but rule 7 of LANGUAGE.md wants the index tested before. */
    private static boolean isThrownByRing(RuntimeException e) {
        StackTraceElement[] trace = e.getStackTrace();
        return trace.length > 0 && trace[0].getClassName().startsWith("DyeRing");
    }

    void same(String what, String got, String want) {
        calls++;
        if (!got.equals(want)) {
            wrong++;
            System.out.println(promise + ": " + what + " answered " + got + ", due is " + want);
        }
    }

    void answers(DyeRing ring, int want, String what, Call call) {
        same(what, outcome(ring, call), Integer.toString(want));
    }

    /** The call throws just this exception, and the ring is then as one that was never called so. */
    void refuses(Maker maker, Class<? extends RuntimeException> want, String what, Call call) {
        DyeRing called = maker.make();
        same(what, outcome(called, call), "throws." + want.getName());
        same("the ring after " + what, Snapshot.of(called), Snapshot.of(maker.make()));
    }

    /** Ends the test: with exit code 1 if an answer was wrong. */
    void end(String test) {
        System.out.println(test + ": " + calls + " answers looked at, " + wrong + " wrong");
        if (wrong != 0 || calls == 0) {
            System.exit(1);
        }
    }
}
