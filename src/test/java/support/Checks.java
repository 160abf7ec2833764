/** Counts the calls whose answer is not the one that is due, and prints them. */
final class Checks {
    /** A call of a ring. */
    interface Call {
        int on(DyeRing ring);
    }

    /** A call of a ring with one argument open. */
    interface OpenCall {
        int on(DyeRing ring, int value);
    }

    /** Makes a ring and brings it into a state. */
    interface Maker {
        DyeRing make();
    }

    private final boolean quiet;
    private int calls = 0;
    private int wrong = 0;
    private String promise = "";

    Checks() {
        this(false);
    }

    Checks(boolean quiet) {
        this.quiet = quiet;
    }

    void begin(String name) {
        promise = name;
    }

    int calls() {
        return calls;
    }

    int wrong() {
        return wrong;
    }

    /** What a call answers, as a text: the number, or the exception's name behind "throws.". */
    static String outcome(DyeRing ring, Call call) {
        try {
            return Integer.toString(call.on(ring));
        } catch (RuntimeException e) {
            return "throws." + e.getClass().getName() + (isThrownByRing(e) ? "" : " not by a throw of its own");
        }
    }

    /** A list's get throws what the document names too, but rule 7 of LANGUAGE.md wants the index tested before. */
    private static boolean isThrownByRing(RuntimeException e) {
        StackTraceElement[] trace = e.getStackTrace();
        return trace.length > 0 && trace[0].getClassName().startsWith("DyeRing");
    }

    void same(String what, String got, String want) {
        calls++;
        if (!got.equals(want)) {
            wrong++;
            if (!quiet) {
                System.out.println(promise + ": " + what + " answered " + got + ", due is " + want);
            }
        }
    }

    void answers(DyeRing ring, int want, String what, Call call) {
        same(what, outcome(ring, call), Integer.toString(want));
    }

    /** The call throws just this exception; what it leaves behind is for the caller to look at. */
    void fails(DyeRing ring, Due want, String what, Call call) {
        same(what, outcome(ring, call), want.outcome);
    }

    /** The call throws just this exception, and the ring is then as one that was never called so. */
    void refuses(Maker maker, Due want, String what, Call call) {
        for (int part = 0; part < Snapshot.PARTS; part++) {
            DyeRing called = maker.make();
            fails(called, want, what, call);
            same("the ring after " + what, Snapshot.of(called, part), Snapshot.of(maker.make(), part));
        }
    }

    /** Every value of the range is taken; the first ones outside it, and far ones, are refused. */
    void range(Maker maker, int least, int most, Due due, String what, OpenCall call) {
        for (int i = least; i <= most; i++) {
            int value = i;
            String got = outcome(maker.make(), r -> call.on(r, value));
            same(what + " of " + value + " is taken", String.valueOf(!got.startsWith("throws.")), "true");
        }
        // 256 and 65536 more would be inside the range again in a byte or a short
        int[] outside = {least - 1, most + 1, least + 256, most + 65536, Integer.MIN_VALUE, Integer.MAX_VALUE};
        for (int value : outside) {
            if (value < least || value > most) {
                refuses(maker, due, what + " of " + value, r -> call.on(r, value));
            }
        }
    }

    /** Ends the test: with exit code 1 if an answer was wrong. */
    void end(String test) {
        System.out.println(test + ": " + calls + " answers looked at, " + wrong + " wrong");
        if (wrong != 0 || calls == 0) {
            System.exit(1);
        }
    }
}
