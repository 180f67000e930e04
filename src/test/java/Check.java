/** Counts what is not as due, and tells it with the sentence of the document that is broken by it. */
final class Check {
    static final String ARGUMENT = "IllegalArgumentException";
    static final String STATE = "IllegalStateException";

    private static int wrong = 0;
    private static int sentences = 0;
    private static String sentence = "";

    interface Call {
        long answer();
    }

    interface YesOrNo {
        boolean answer();
    }

    private Check() {
    }

    /** Runs the test of one sentence of a promise. */
    static void sentence(String promise, String words, Runnable test) {
        sentences++;
        sentence = promise + " (" + words + "): ";
        try {
            test.run();
        } catch (RuntimeException e) {
            same("a call of the test", e.toString(), "no exception");
        }
        sentence = "";
    }

    /** What a call answers, or the simple name of what it throws. */
    static String outcome(Call call) {
        try {
            return Long.toString(call.answer());
        } catch (RuntimeException e) {
            return e.getClass().getSimpleName();
        }
    }

    static void same(String what, String got, String want) {
        if (!got.equals(want)) {
            wrong++;
            System.out.println(sentence + what + ": " + got + ", due is " + want);
        }
    }

    static void due(String what, long want, Call call) {
        same(what, outcome(call), Long.toString(want));
    }

    static void none(String what, Call call) {
        due(what, AlarmMatrix.NONE, call);
    }

    static void yes(String what, YesOrNo call) {
        due(what, 1, () -> call.answer() ? 1 : 0);
    }

    static void no(String what, YesOrNo call) {
        due(what, 0, () -> call.answer() ? 1 : 0);
    }

    static void badArgument(String what, Call call) {
        same(what, outcome(call), ARGUMENT);
    }

    static void badState(String what, Call call) {
        same(what, outcome(call), STATE);
    }

    static void end() {
        System.out.println("sentences: " + sentences + ", answers that are not as due: " + wrong);
        if (wrong != 0) {
            System.exit(1);
        }
    }
}
