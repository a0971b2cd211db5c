/** Compares answers with those that are due, and counts the wrong ones. */
final class Check {
    private static int wrong = 0;
    private static int checked = 0;

    private Check() {
    }

    interface Call {
        void go();
    }

    static void due(String what, long want, long got) {
        checked++;
        if (want != got) {
            wrong(what + " answered " + got + ", due is " + want);
        }
    }

    static void due(String what, boolean want, boolean got) {
        due(what, want ? 1 : 0, got ? 1 : 0);
    }

    static void dueExactly(String what, double want, double got) {
        checked++;
        if (Double.doubleToLongBits(want) != Double.doubleToLongBits(got)) {
            wrong(what + " answered " + got + ", due is " + want);
        }
    }

    /** The call throws exactly this exception, by a throw of the program's own, and changes nothing. */
    static void refused(String what, StoryToll gate, Class<? extends RuntimeException> want, Call call) {
        checked++;
        long before = Gates.printOf(gate);
        RuntimeException thrown = null;
        try {
            call.go();
        } catch (RuntimeException e) {
            thrown = e;
        }
        if (thrown == null || thrown.getClass() != want) {
            wrong(what + " threw " + thrown + ", due is " + want);
        } else if (!thrown.getStackTrace()[0].getClassName().startsWith("StoryToll")) {
            wrong(what + " let the library throw " + thrown);
        }
        if (Gates.printOf(gate) != before) {
            wrong(what + " threw and changed something");
        }
    }

    static void noIndex(String what, StoryToll gate, Call call) {
        refused(what, gate, IndexOutOfBoundsException.class, call);
    }

    static void noArgument(String what, StoryToll gate, Call call) {
        refused(what, gate, IllegalArgumentException.class, call);
    }

    static void noState(String what, StoryToll gate, Call call) {
        refused(what, gate, IllegalStateException.class, call);
    }

    static void wrong(String what) {
        wrong++;
        if (wrong <= 40) {
            System.out.println(what);
        }
    }

    /** Ends the program, with exit code 1 if an answer was wrong. */
    static void end() {
        System.out.println(checked + " checks, " + wrong + " wrong");
        if (wrong > 0 || checked == 0) {
            System.exit(1);
        }
    }
}
