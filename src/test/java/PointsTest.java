/** Promises 6 to 8: signal, fault and disable. */
final class PointsTest {
    private static final String ONE_ZONE = "zone 0 needs 1 of 0 1 2;";
    private static final int[] NO_POINTS = {Integer.MIN_VALUE, -1, 6, 200, Integer.MAX_VALUE};

    public static void main(String[] args) {
        Check.sentence("Promise 6", "a point's value: what it was", PointsTest::signalAnswersWhatItWas);
        Check.sentence("Promise 6", "illegal argument: there is no such point", PointsTest::signalNoSuchPoint);
        Check.sentence("Promise 6", "illegal argument: the value is not 0 .. 100", PointsTest::signalNoSuchValue);
        Check.sentence("Promise 6", "on if it is 50 or more", PointsTest::on50OrMore);

        Check.sentence("Promise 7", "faulty, or alive: whether it was faulty", PointsTest::faultAnswersWhatItWas);
        Check.sentence("Promise 7", "illegal argument: there is no such point", PointsTest::faultNoSuchPoint);
        Check.sentence("Promise 7", "on if the point is alive", PointsTest::onIfAlive);

        Check.sentence("Promise 8", "until when it was", PointsTest::disableAnswersUntilWhen);
        Check.sentence("Promise 8", "as long as TIME is less than that", PointsTest::disabledAsLongAsTimeIsLess);
        Check.sentence("Promise 8", "illegal argument: there is no such point", PointsTest::disableNoSuchPoint);
        Check.sentence("Promise 8", "illegal argument: not 0 .. 1000000", PointsTest::disableNoSuchSecond);
        Check.end();
    }

    private static void signalAnswersWhatItWas() {
        AlarmMatrix x = new AlarmMatrix(200);
        Check.due("0 at first", 0, () -> x.signal(199, 7));
        Check.due("7", 7, () -> x.signal(199, 7));
        Check.due("7 again", 7, () -> x.signal(199, 100));
        Check.due("100, the greatest", 100, () -> x.signal(199, 0));
        Check.due("0, the least", 0, () -> x.signal(199, 1));
        Check.due("another point", 0, () -> x.signal(0, 3));
        Check.due("it stays for itself", 1, () -> x.signal(199, 1));
    }

    private static void signalNoSuchPoint() {
        Refused.arguments("signal(%d, 50)", NO_POINTS, (x, n) -> x.signal(n, 50));
        Check.due("the first point", 60, () -> Sample.busy().signal(0, 50));
        Check.due("the last point", 0, () -> Sample.busy().signal(5, 50));
    }

    private static void signalNoSuchValue() {
        int[] values = {Integer.MIN_VALUE, -1, 101, 256, Integer.MAX_VALUE};
        Refused.arguments("signal(0, %d)", values, (x, n) -> x.signal(0, n));
    }

    private static void on50OrMore() {
        AlarmMatrix x = Sample.read(3, ONE_ZONE);
        int[] values = {0, 1, 49, 50, 51, 100};
        for (int value : values) {
            x.signal(1, value);
            Check.due("on by " + value, value < 50 ? 0 : 1, () -> x.zone(0, 3));
        }
    }

    private static void faultAnswersWhatItWas() {
        AlarmMatrix x = new AlarmMatrix(3);
        Check.no("alive at first", () -> x.fault(1, false));
        Check.no("alive", () -> x.fault(1, true));
        Check.yes("faulty", () -> x.fault(1, true));
        Check.no("another point", () -> x.fault(2, false));
        Check.yes("faulty still", () -> x.fault(1, false));
        Check.no("alive again", () -> x.fault(1, false));
    }

    private static void faultNoSuchPoint() {
        Refused.arguments("fault(%d, true)", NO_POINTS, (x, n) -> x.fault(n, true));
        Refused.arguments("fault(%d, false)", NO_POINTS, (x, n) -> x.fault(n, false));
        Check.no("the first point", () -> Sample.busy().fault(0, true));
        Check.no("the last point", () -> Sample.busy().fault(5, true));
    }

    private static void onIfAlive() {
        AlarmMatrix x = Sample.read(3, ONE_ZONE);
        x.signal(1, 100);
        x.fault(1, true);
        Check.due("faulty", 0, () -> x.zone(0, 3));
        Check.due("its value stays", 100, () -> x.signal(1, 60));
        x.fault(1, false);
        Check.due("alive", 1, () -> x.zone(0, 3));
    }

    private static void disableAnswersUntilWhen() {
        AlarmMatrix x = new AlarmMatrix(3);
        Check.due("0 at first", 0, () -> x.disable(1, 2));
        Check.due("2", 2, () -> x.disable(1, 2));
        Check.due("another point", 0, () -> x.disable(2, 0));
        x.ticks(9);
        Check.due("2, though it is over", 2, () -> x.disable(1, 1000000));
        Check.due("the greatest", 1000000, () -> x.disable(1, 0));
        Check.due("the least", 0, () -> x.disable(1, 0));
    }

    private static void disabledAsLongAsTimeIsLess() {
        AlarmMatrix x = Sample.read(3, ONE_ZONE);
        x.signal(1, 100);
        x.disable(1, 0);
        Check.due("until 0, at 0", 1, () -> x.zone(0, 3));
        x.disable(1, 1);
        Check.due("until 1, at 0", 0, () -> x.zone(0, 3));
        x.ticks(1);
        Check.due("until 1, at 1", 1, () -> x.zone(0, 3));
        x.disable(1, 4);
        x.ticks(2);
        Check.due("until 4, at 3", 0, () -> x.zone(0, 3));
        x.ticks(1);
        Check.due("until 4, at 4", 1, () -> x.zone(0, 3));
        x.ticks(1);
        Check.due("until 4, at 5", 1, () -> x.zone(0, 3));
        x.disable(1, 5);
        Check.due("until 5, at 5", 1, () -> x.zone(0, 3));
        x.disable(1, 6);
        Check.due("until 6, at 5", 0, () -> x.zone(0, 3));
        x.disable(1, 0);
        Check.due("disabled no more", 1, () -> x.zone(0, 3));
        AlarmMatrix late = Sample.atTime(20000);
        late.signal(0, 100);
        late.disable(0, 20000);
        Check.due("until 20000, at 20000", 1, () -> late.zone(0, 3));
        late.disable(0, 20001);
        Check.due("until 20001, at 20000", 0, () -> late.zone(0, 3));
    }

    private static void disableNoSuchPoint() {
        Refused.arguments("disable(%d, 9)", NO_POINTS, (x, n) -> x.disable(n, 9));
        Check.due("the first point", 0, () -> Sample.busy().disable(0, 9));
        Check.due("the last point", 0, () -> Sample.busy().disable(5, 9));
    }

    private static void disableNoSuchSecond() {
        int[] seconds = {Integer.MIN_VALUE, -1, 1000001, Integer.MAX_VALUE};
        Refused.arguments("disable(0, %d)", seconds, (x, n) -> x.disable(0, n));
        Refused.arguments("disable(3, %d)", seconds, (x, n) -> x.disable(3, n));
    }
}
