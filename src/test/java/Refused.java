import java.util.List;
import java.util.function.Supplier;

/** Calls that are refused: what they throw, and that they change nothing. */
final class Refused {
    private static final String NO_EXCEPTION = "no exception";

    interface Deed {
        void on(AlarmMatrix x);
    }

    interface DeedWithNumber {
        void on(AlarmMatrix x, int number);
    }

    private Refused() {
    }

    static void argument(String what, Supplier<AlarmMatrix> make, Deed deed) {
        refused(Check.ARGUMENT, what, make, deed);
    }

    /** Each of the numbers, on a busy object; %d stands for it in what is told. */
    static void arguments(String what, int[] numbers, DeedWithNumber deed) {
        for (int number : numbers) {
            argument(String.format(what, number), Sample::busy, x -> deed.on(x, number));
        }
    }

    static void state(String what, Supplier<AlarmMatrix> make, Deed deed) {
        refused(Check.STATE, what, make, deed);
    }

    /** The same calls make a second object, on which the deed is not done: both must answer alike for ever. */
    static void changesNothing(String what, Supplier<AlarmMatrix> make, Deed deed) {
        refused(NO_EXCEPTION, what, make, deed);
    }

    private static void refused(String exception, String what, Supplier<AlarmMatrix> make, Deed deed) {
        comparedBy(Probe.inOrder(), exception, what, make, deed);
        comparedBy(Probe.refusedLast(make), exception, what, make, deed);
    }

    private static void comparedBy(
        Probe probe, String exception, String what, Supplier<AlarmMatrix> make, Deed deed) {
        AlarmMatrix asked = make.get();
        Check.same(what, thrownBy(asked, deed), exception);
        List<String> got = probe.answersOf(asked);
        List<String> want = probe.answersOf(make.get());
        for (int k = 0; k < want.size(); k++) {
            Check.same("behind " + what, got.get(k), want.get(k));
        }
    }

    private static String thrownBy(AlarmMatrix x, Deed deed) {
        try {
            deed.on(x);
        } catch (RuntimeException e) {
            return e.getClass().getSimpleName();
        }
        return NO_EXCEPTION;
    }
}
