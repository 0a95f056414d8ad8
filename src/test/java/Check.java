/** What the project's tests tell a fault with; a test program ends with done(). */
final class Check {
    /** A call that is due to throw. */
    interface Call {
        void run();
    }

    private static int wrong = 0;
    private static int asked = 0;

    private Check() {
    }

    static void same(String what, long got, long due) {
        asked++;
        if (got != due) {
            tell(what + " answered " + got + ", due is " + due);
        }
    }

    static void same(String what, boolean got, boolean due) {
        same(what, got ? 1 : 0, due ? 1 : 0);
    }

    static void sameDouble(String what, double got, double due) {
        asked++;
        if (got != due) {
            tell(what + " answered " + got + ", due is " + due);
        }
    }

    static void sameText(String what, String got, String due) {
        asked++;
        if (!got.equals(due)) {
            tell(what + " answered " + got + ", due is " + due);
        }
    }

    static void corners(String what, StandTests s, int... due) {
        for (int k = 0; k < due.length; k++) {
            same("corner " + k + ": " + what, s.side(k), due[k]);
        }
        same("behind the last corner: " + what, s.side(due.length), StandTests.NONE);
    }

    static void badState(String what, Call call) {
        sameText(what, outcome(call), "throws.IllegalStateException");
    }

    static void badArgument(String what, Call call) {
        sameText(what, outcome(call), "throws.IllegalArgumentException");
    }

    static void badIndex(String what, Call call) {
        sameText(what, outcome(call), "throws.IndexOutOfBoundsException");
    }

    /** The exception's exact class, and whether the class itself threw it. */
    static String outcome(Call call) {
        try {
            call.run();
            return "nothing";
        } catch (RuntimeException e) {
            return thrown(e);
        }
    }

    static String thrown(RuntimeException e) {
        StackTraceElement[] frames = e.getStackTrace();
        boolean own = frames.length > 0 && frames[0].getClassName().startsWith("StandTests");
        return (own ? "throws." : "machine throws.") + e.getClass().getSimpleName();
    }

    static void done(String program) {
        System.out.println(program + ": " + asked + " answers asked, " + wrong + " wrong");
        if (wrong != 0) {
            System.exit(1);
        }
    }

    private static void tell(String fault) {
        wrong++;
        if (wrong <= 50) {
            System.out.println(fault);
        }
    }
}
