/** Counts what is not as due; each test's main ends with end(). */
final class Check {
    static final String ARGUMENT = "IllegalArgumentException";
    static final String STATE = "IllegalStateException";

    private static int wrong = 0;

    interface Call {
        long answer();
    }

    interface YesOrNo {
        boolean answer();
    }

    private Check() {
    }

    /** What a call answers, or the simple name of what it throws. */
    static String outcome(Call call) {
        try {
            return Long.toString(call.answer());
        } catch (RuntimeException e) {
            return e.getClass().getSimpleName();
        }
    }

    static void same(String what, String got, String want) {
        if (!got.equals(want)) {
            wrong++;
            System.out.println(what + ": " + got + ", due is " + want);
        }
    }

    static void due(String what, long want, Call call) {
        same(what, outcome(call), Long.toString(want));
    }

    static void yes(String what, YesOrNo call) {
        due(what, 1, () -> call.answer() ? 1 : 0);
    }

    static void no(String what, YesOrNo call) {
        due(what, 0, () -> call.answer() ? 1 : 0);
    }

    static void badArgument(String what, Call call) {
        same(what, outcome(call), ARGUMENT);
    }

    static void badState(String what, Call call) {
        same(what, outcome(call), STATE);
    }

    /** Writes a text character by character: one call each of the 512 that an object is good for. */
    static void type(AlarmMatrix x, String text) {
        for (int k = 0; k < text.length(); k++) {
            x.unit(text.charAt(k));
        }
    }

    static AlarmMatrix readNew(int points, String text) {
        AlarmMatrix x = new AlarmMatrix(points);
        type(x, text);
        if (x.read() < 0) {
            throw new IllegalStateException("a test's own text is wrong: " + text);
        }
        return x;
    }

    static void end() {
        System.out.println(wrong == 0 ? "all as due" : wrong + " not as due");
        if (wrong != 0) {
            System.exit(1);
        }
    }
}
