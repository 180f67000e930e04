/** Promises 9 to 12: loop, cut, heard and unreachable. */
final class LoopTest {
    private static final int[] NO_LOOPS = {Integer.MIN_VALUE, -1, 8, Integer.MAX_VALUE};

    public static void main(String[] args) {
        Check.sentence("Promise 9", "a point comes at the end of a row: how many that has", LoopTest::loopAnswersHowMany);
        Check.sentence("Promise 9", "illegal argument: there is no such loop", LoopTest::loopNoSuchLoop);
        Check.sentence("Promise 9", "illegal argument: there is no such point", LoopTest::loopNoSuchPoint);
        Check.sentence("Promise 9", "illegal state: the point is in a loop", LoopTest::pointIsInALoop);
        Check.sentence("Promise 9", "illegal state: the loop has 40", LoopTest::loopHas40);
        Check.sentence("Promise 9", "of several exceptions the one named first", LoopTest::loopArgumentBeforeState);

        Check.sentence("Promise 10", "cut, or mended: whether there was a cut", LoopTest::cutAnswersWhetherThereWas);
        Check.sentence("Promise 10", "a cut at 0 .. as many as there are points", LoopTest::cutPlaces);
        Check.sentence("Promise 10", "illegal argument: there is no such loop", LoopTest::cutNoSuchLoop);
        Check.sentence("Promise 10", "illegal argument: also if there is no such place", LoopTest::cutNoSuchPlace);

        Check.sentence("Promise 11", "no cut: all are heard", LoopTest::heardWithoutCuts);
        Check.sentence("Promise 11", "with one cut all are heard", LoopTest::heardWithOneCut);
        Check.sentence("Promise 11", "those between the first and the last one are not", LoopTest::heardWithTwoCuts);
        Check.sentence("Promise 11", "cuts between the first and the last one", LoopTest::heardWithThreeCuts);
        Check.sentence("Promise 11", "cuts at both ends: none is heard", LoopTest::heardByNone);
        Check.sentence("Promise 11", "a cut behind the last point, and a new one", LoopTest::newPointBehindACut);
        Check.sentence("Promise 11", "illegal argument: there is no such loop", LoopTest::heardNoSuchLoop);
        Check.sentence("Terms", "a point in no loop is heard", LoopTest::pointInNoLoop);

        Check.sentence("Promise 12", "the k-th point (by numbers) that is not heard", LoopTest::unreachableByNumbers);
        Check.sentence("Promise 12", "NONE", LoopTest::unreachableNone);
        Check.sentence("Promise 12", "illegal argument: k is below 0", LoopTest::unreachableBelow0);
        Check.end();
    }

    private static void loopAnswersHowMany() {
        AlarmMatrix x = new AlarmMatrix(5);
        Check.due("first", 1, () -> x.loop(0, 3));
        Check.due("second", 2, () -> x.loop(0, 0));
        Check.due("another loop", 1, () -> x.loop(7, 1));
        Check.due("third", 3, () -> x.loop(0, 4));
        x.cut(0, 1, true);
        x.cut(0, 2, true);
        Check.due("the second point of the row stands there", 0, () -> x.unreachable(0));
        x.cut(0, 1, false);
        x.cut(0, 3, true);
        Check.due("the third point of the row stands there", 4, () -> x.unreachable(0));
    }

    private static void loopNoSuchLoop() {
        Refused.arguments("loop(%d, 0)", NO_LOOPS, (x, n) -> x.loop(n, 0));
        Check.due("the first loop", 2, () -> Sample.busy().loop(0, 0));
        Check.due("the last loop", 1, () -> Sample.busy().loop(7, 0));
    }

    private static void loopNoSuchPoint() {
        int[] points = {Integer.MIN_VALUE, -1, 6, Integer.MAX_VALUE};
        Refused.arguments("loop(2, %d)", points, (x, n) -> x.loop(2, n));
        Check.due("the first point", 1, () -> Sample.busy().loop(2, 0));
        AlarmMatrix x = new AlarmMatrix(200);
        Check.due("the last point", 1, () -> x.loop(2, 199));
    }

    private static void pointIsInALoop() {
        Refused.state("in this loop", Sample::busy, x -> x.loop(0, 3));
        Refused.state("in another loop", Sample::busy, x -> x.loop(1, 3));
        Refused.state("in an earlier loop", Sample::busy, x -> x.loop(7, 5));
        Refused.state("the first point of a full loop", Sample::busyWithFullLoop, x -> x.loop(0, 49));
        Refused.state("the last point of a full loop", Sample::busyWithFullLoop, x -> x.loop(0, 10));
    }

    private static void loopHas40() {
        AlarmMatrix x = new AlarmMatrix(200);
        for (int k = 0; k < 40; k++) {
            int point = k;
            Check.due("point " + k, k + 1, () -> x.loop(7, point));
        }
        Check.badState("the forty-first", () -> x.loop(7, 40));
        Check.due("another loop takes it", 1, () -> x.loop(6, 40));
        Refused.state("the forty-first", Sample::busyWithFullLoop, y -> y.loop(3, 0));
        Refused.state("one that is in it", Sample::busyWithFullLoop, y -> y.loop(3, 20));
        AlarmMatrix y = Sample.fullLoop();
        Check.badState("refused", () -> y.loop(3, 0));
        Check.due("it has 40 still", 40, () -> y.heard(3));
        Check.due("the refused point is in no loop", 1, () -> y.loop(4, 0));
    }

    private static void loopArgumentBeforeState() {
        Refused.argument("no such loop, the point is in one", Sample::busy, x -> x.loop(8, 3));
        Refused.argument("a loop below 0, the point is in one", Sample::busy, x -> x.loop(-1, 3));
        Refused.argument("no such point, the loop is full", Sample::busyWithFullLoop, x -> x.loop(3, 50));
        Refused.argument("a point below 0, the loop is full", Sample::busyWithFullLoop, x -> x.loop(3, -1));
    }

    private static void cutAnswersWhetherThereWas() {
        AlarmMatrix x = Sample.loopOf(2);
        Check.no("mended, though whole", () -> x.cut(5, 1, false));
        Check.no("cut", () -> x.cut(5, 1, true));
        Check.yes("cut again", () -> x.cut(5, 1, true));
        Check.no("another place", () -> x.cut(5, 2, false));
        Check.no("another loop", () -> x.cut(4, 0, false));
        Check.yes("mended", () -> x.cut(5, 1, false));
        Check.no("mended again", () -> x.cut(5, 1, false));
    }

    private static void cutPlaces() {
        AlarmMatrix x = new AlarmMatrix(9);
        Check.no("an empty loop's only place", () -> x.cut(2, 0, true));
        Check.yes("it is cut there", () -> x.cut(2, 0, true));
        Check.badArgument("it has no other", () -> x.cut(2, 1, true) ? 1 : 0);
        x.loop(2, 8);
        Check.no("behind its first point", () -> x.cut(2, 1, true));
        Check.badArgument("it has two places", () -> x.cut(2, 2, true) ? 1 : 0);
        Check.yes("the first cut stays", () -> x.cut(2, 0, false));
        AlarmMatrix full = Sample.fullLoop();
        Check.no("before the first of 40", () -> full.cut(3, 0, true));
        Check.no("before the last of 40", () -> full.cut(3, 39, true));
        Check.no("behind the last of 40", () -> full.cut(3, 40, true));
        Check.badArgument("no place 41", () -> full.cut(3, 41, true) ? 1 : 0);
        Check.yes("each is kept: 0", () -> full.cut(3, 0, false));
        Check.yes("each is kept: 39", () -> full.cut(3, 39, false));
        Check.yes("each is kept: 40", () -> full.cut(3, 40, false));
    }

    private static void cutNoSuchLoop() {
        Refused.arguments("cut(%d, 0, true)", NO_LOOPS, (x, n) -> x.cut(n, 0, true));
        Refused.arguments("cut(%d, 0, false)", NO_LOOPS, (x, n) -> x.cut(n, 0, false));
        Check.no("the last loop", () -> Sample.busy().cut(7, 0, true));
    }

    private static void cutNoSuchPlace() {
        int[] places = {Integer.MIN_VALUE, -1, 2, 41, Integer.MAX_VALUE};
        Refused.arguments("cut(1, %d, true)", places, (x, n) -> x.cut(1, n, true));
        Refused.arguments("cut(1, %d, false)", places, (x, n) -> x.cut(1, n, false));
        Refused.argument("cut(2, 1, true)", Sample::busy, x -> x.cut(2, 1, true));
        Refused.argument("cut(3, 41, true)", Sample::busyWithFullLoop, x -> x.cut(3, 41, true));
    }

    private static void heardWithoutCuts() {
        Check.due("an empty loop", 0, () -> new AlarmMatrix(1).heard(0));
        Check.due("one point", 1, () -> Sample.loopOf(1).heard(5));
        Check.due("40 points", 40, () -> Sample.fullLoop().heard(3));
        Check.due("another loop", 0, () -> Sample.fullLoop().heard(4));
    }

    private static void heardWithOneCut() {
        for (int size = 1; size <= 5; size++) {
            AlarmMatrix x = Sample.loopOf(size);
            for (int at = 0; at <= size; at++) {
                x.cut(5, at, true);
                Check.due("cut at " + at + " of " + size, size, () -> x.heard(5));
                Check.due("on, cut at " + at + " of " + size, size, () -> x.zone(0, 3));
                Check.none("unheard, cut at " + at + " of " + size, () -> x.unreachable(0));
                x.cut(5, at, false);
            }
        }
        AlarmMatrix empty = new AlarmMatrix(1);
        empty.cut(0, 0, true);
        Check.due("an empty loop", 0, () -> empty.heard(0));
    }

    private static void heardWithTwoCuts() {
        int size = 5;
        for (int first = 0; first < size; first++) {
            for (int last = first + 1; last <= size; last++) {
                AlarmMatrix x = Sample.loopOf(size);
                // In turn, so that it is seen that the order of the cuts does not count.
                x.cut(5, first % 2 == 0 ? first : last, true);
                x.cut(5, first % 2 == 0 ? last : first, true);
                int silent = last - first;
                String cuts = "cuts at " + first + " and " + last;
                Check.due(cuts, size - silent, () -> x.heard(5));
                Check.due("on, " + cuts, size - silent, () -> x.zone(0, 3));
                Check.due("the first unheard, " + cuts, first, () -> x.unreachable(0));
                Check.due("the last unheard, " + cuts, last - 1, () -> x.unreachable(silent - 1));
                Check.none("no more, " + cuts, () -> x.unreachable(silent));
            }
        }
    }

    private static void heardWithThreeCuts() {
        AlarmMatrix x = Sample.loopOf(5);
        x.cut(5, 1, true);
        x.cut(5, 4, true);
        x.cut(5, 2, true);
        Check.due("1 .. 3 are not heard", 2, () -> x.heard(5));
        x.cut(5, 1, false);
        Check.due("the first is mended: 2 and 3 are not", 3, () -> x.heard(5));
        Check.due("2", 2, () -> x.unreachable(0));
        x.cut(5, 1, true);
        x.cut(5, 4, false);
        Check.due("the last is mended: 1 is not", 4, () -> x.heard(5));
        Check.due("1", 1, () -> x.unreachable(0));
        x.cut(5, 2, false);
        Check.due("one cut is left", 5, () -> x.heard(5));
        x.cut(5, 1, false);
        Check.due("none is left", 5, () -> x.heard(5));
        Check.due("all are on again", 5, () -> x.zone(0, 3));
    }

    private static void heardByNone() {
        AlarmMatrix one = Sample.loopOf(1);
        one.cut(5, 0, true);
        one.cut(5, 1, true);
        Check.due("one point", 0, () -> one.heard(5));
        Check.due("it is not on", 0, () -> one.zone(0, 3));
        AlarmMatrix full = Sample.fullLoop();
        full.cut(3, 0, true);
        full.cut(3, 40, true);
        Check.due("40 points", 0, () -> full.heard(3));
        Check.due("the least one", 10, () -> full.unreachable(0));
        Check.due("the greatest one", 49, () -> full.unreachable(39));
        Check.none("no more", () -> full.unreachable(40));
        full.cut(3, 0, false);
        full.cut(3, 39, true);
        Check.due("39 points", 39, () -> full.heard(3));
        Check.due("the one between 39 and 40", 10, () -> full.unreachable(0));
    }

    private static void newPointBehindACut() {
        AlarmMatrix x = new AlarmMatrix(6);
        x.cut(0, 0, true);
        Check.due("the first point comes behind the cut", 1, () -> x.loop(0, 4));
        Check.due("it is heard", 1, () -> x.heard(0));
        x.cut(0, 1, true);
        Check.due("between the cuts", 0, () -> x.heard(0));
        x.loop(0, 2);
        Check.due("the new one is behind the last cut", 1, () -> x.heard(0));
        Check.due("the old one is not heard", 4, () -> x.unreachable(0));
        Check.none("the new one is", () -> x.unreachable(1));
        x.cut(0, 2, true);
        Check.due("now it is not", 2, () -> x.unreachable(0));
    }

    private static void heardNoSuchLoop() {
        Refused.arguments("heard(%d)", NO_LOOPS, (x, n) -> x.heard(n));
        Check.due("the first loop", 0, () -> Sample.busy().heard(0));
        Check.due("the second loop", 1, () -> Sample.busy().heard(1));
        Check.due("the last loop", 0, () -> Sample.busy().heard(7));
    }

    private static void pointInNoLoop() {
        AlarmMatrix x = Sample.read(3, "zone 0 needs 1 of 0 1 2;");
        for (int point = 0; point < 3; point++) {
            x.signal(point, 100);
        }
        for (int loop = 0; loop < 8; loop++) {
            x.cut(loop, 0, true);
        }
        x.loop(0, 1);
        x.cut(0, 1, true);
        Check.due("0 and 2 are on", 2, () -> x.zone(0, 3));
        Check.due("1 is not heard", 1, () -> x.unreachable(0));
        Check.none("0 and 2 are", () -> x.unreachable(1));
    }

    private static AlarmMatrix fourUnheard() {
        AlarmMatrix x = new AlarmMatrix(9);
        int[] row = {8, 3, 5};
        for (int point : row) {
            x.loop(0, point);
        }
        x.loop(1, 4);
        x.loop(1, 0);
        x.cut(0, 0, true);
        x.cut(0, 2, true);
        x.cut(1, 0, true);
        x.cut(1, 2, true);
        return x;
    }

    private static void unreachableByNumbers() {
        int[] want = {0, 3, 4, 8};
        for (int k = 0; k < want.length; k++) {
            int place = k;
            Check.due("unreachable " + k, want[k], () -> fourUnheard().unreachable(place));
        }
    }

    private static void unreachableNone() {
        AlarmMatrix x = fourUnheard();
        Check.none("as many as there are", () -> x.unreachable(4));
        Check.none("one more", () -> x.unreachable(5));
        Check.none("the greatest", () -> x.unreachable(Integer.MAX_VALUE));
        x.fault(1, true);
        x.disable(2, 100);
        Check.none("faulty and disabled ones are heard", () -> x.unreachable(4));
        Check.none("no cuts at all", () -> new AlarmMatrix(200).unreachable(0));
    }

    private static void unreachableBelow0() {
        Refused.argument("unreachable(-1)", Sample::busy, x -> x.unreachable(-1));
        Refused.argument("unreachable of the least", Sample::busy, x -> x.unreachable(Integer.MIN_VALUE));
    }
}
