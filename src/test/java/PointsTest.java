/** Promises 6 to 12: signal, fault, disable, loop, cut, heard and unreachable. */
final class PointsTest {
    private static final String ONE_ZONE = "zone 0 needs 1 of 0 1 2;";

    public static void main(String[] args) {
        signalKeepsValues();
        faultKeepsWhetherFaulty();
        disableKeepsUntilWhen();
        loopTakesPoints();
        fullLoop();
        cutKeepsPlaces();
        pointsAreHeard();
        cutBehindTheLastPoint();
        unreachableByNumbers();
        Check.end();
    }

    private static void signalKeepsValues() {
        AlarmMatrix x = Check.readNew(3, ONE_ZONE);
        Check.due("0 at first", 0, () -> x.signal(2, 100));
        Check.due("100", 100, () -> x.signal(2, 49));
        Check.due("49 is not on", 0, () -> x.zone(0, 3));
        Check.badArgument("101", () -> x.signal(2, 101));
        Check.badArgument("-1", () -> x.signal(2, -1));
        Check.badArgument("point 3", () -> x.signal(3, 50));
        Check.badArgument("point -1", () -> x.signal(-1, 50));
        Check.badArgument("greatest point", () -> x.signal(Integer.MAX_VALUE, 50));
        Check.due("49 still", 49, () -> x.signal(2, 50));
        Check.due("50 is on", 1, () -> x.zone(0, 3));
        Check.due("other point", 0, () -> x.signal(0, 0));
    }

    private static void faultKeepsWhetherFaulty() {
        AlarmMatrix x = Check.readNew(3, ONE_ZONE);
        x.signal(1, 100);
        Check.no("alive at first", () -> x.fault(1, true));
        Check.due("faulty: not on", 0, () -> x.zone(0, 3));
        Check.yes("faulty", () -> x.fault(1, true));
        Check.badArgument("point 3", () -> x.fault(3, true) ? 1 : 0);
        Check.badArgument("point -1", () -> x.fault(-1, false) ? 1 : 0);
        Check.yes("faulty still", () -> x.fault(1, false));
        Check.no("alive", () -> x.fault(1, false));
        Check.due("on again", 1, () -> x.zone(0, 3));
        Check.due("the value stayed", 100, () -> x.signal(1, 0));
    }

    private static void disableKeepsUntilWhen() {
        AlarmMatrix x = Check.readNew(3, ONE_ZONE);
        x.signal(1, 100);
        Check.due("0 at first", 0, () -> x.disable(1, 2));
        Check.due("disabled: not on", 0, () -> x.zone(0, 3));
        x.ticks(1);
        Check.due("at second 1", 0, () -> x.zone(0, 3));
        x.ticks(1);
        Check.due("at second 2", 1, () -> x.zone(0, 3));
        Check.due("2, though it is over", 2, () -> x.disable(1, 3));
        Check.due("disabled anew", 0, () -> x.zone(0, 3));
        Check.due("3", 3, () -> x.disable(1, 0));
        Check.due("enabled", 1, () -> x.zone(0, 3));
        Check.due("the greatest", 0, () -> x.disable(1, 1000000));
        Check.badArgument("above", () -> x.disable(1, 1000001));
        Check.badArgument("below", () -> x.disable(1, -1));
        Check.badArgument("point 3", () -> x.disable(3, 1));
        Check.badArgument("point -1", () -> x.disable(-1, 1));
        Check.due("the greatest stayed", 1000000, () -> x.disable(1, 1));
        Check.due("a second that is over", 1, () -> x.zone(0, 3));
    }

    private static void loopTakesPoints() {
        AlarmMatrix x = new AlarmMatrix(4);
        Check.due("first", 1, () -> x.loop(0, 3));
        Check.due("second", 2, () -> x.loop(0, 0));
        Check.due("another loop", 1, () -> x.loop(7, 1));
        Check.badState("in this loop", () -> x.loop(0, 3));
        Check.badState("in another loop", () -> x.loop(7, 3));
        Check.badArgument("loop 8", () -> x.loop(8, 2));
        Check.badArgument("loop -1", () -> x.loop(-1, 2));
        Check.badArgument("point 4", () -> x.loop(0, 4));
        Check.badArgument("point -1", () -> x.loop(0, -1));
        Check.badArgument("argument before state", () -> x.loop(8, 3));
        Check.due("none of these came", 3, () -> x.loop(0, 2));
        Check.due("heard", 3, () -> x.heard(0));
    }

    private static void fullLoop() {
        AlarmMatrix x = new AlarmMatrix(50);
        for (int k = 0; k < 40; k++) {
            int point = 49 - k;
            Check.due("point " + k, k + 1, () -> x.loop(3, point));
        }
        Check.badState("forty-first", () -> x.loop(3, 0));
        Check.badArgument("forty-first that is not there", () -> x.loop(3, 50));
        Check.due("heard", 40, () -> x.heard(3));
        Check.due("it is in no loop", 1, () -> x.loop(4, 0));
        Check.no("last place", () -> x.cut(3, 40, true));
        Check.no("first place", () -> x.cut(3, 0, true));
        Check.badArgument("behind it", () -> x.cut(3, 41, true) ? 1 : 0);
        Check.due("none heard", 0, () -> x.heard(3));
        Check.due("the least one", 10, () -> x.unreachable(0));
        Check.due("the greatest one", 49, () -> x.unreachable(39));
        Check.due("no more", AlarmMatrix.NONE, () -> x.unreachable(40));
    }

    private static void cutKeepsPlaces() {
        AlarmMatrix x = new AlarmMatrix(4);
        x.loop(1, 0);
        x.loop(1, 1);
        Check.no("no cut", () -> x.cut(1, 2, false));
        Check.no("cut", () -> x.cut(1, 2, true));
        Check.yes("cut again", () -> x.cut(1, 2, true));
        Check.no("another place", () -> x.cut(1, 0, false));
        Check.yes("mended", () -> x.cut(1, 2, false));
        Check.no("mended again", () -> x.cut(1, 2, false));
        Check.badArgument("no such place", () -> x.cut(1, 3, true) ? 1 : 0);
        Check.badArgument("below", () -> x.cut(1, -1, true) ? 1 : 0);
        Check.badArgument("no such place in an empty loop", () -> x.cut(2, 1, false) ? 1 : 0);
        Check.badArgument("loop 8", () -> x.cut(8, 0, true) ? 1 : 0);
        Check.badArgument("loop -1", () -> x.cut(-1, 0, true) ? 1 : 0);
        Check.no("an empty loop's place", () -> x.cut(2, 0, true));
        Check.yes("it is there", () -> x.cut(2, 0, true));
        Check.badArgument("heard of 8", () -> x.heard(8));
        Check.badArgument("heard of -1", () -> x.heard(-1));
    }

    private static void pointsAreHeard() {
        AlarmMatrix x = Check.readNew(6, "zone 0 needs 1 of 0 1 2 3 4 5;");
        for (int k = 0; k < 5; k++) {
            x.signal(k, 99);
            x.loop(5, k);
        }
        x.signal(5, 99);
        for (int at = 0; at <= 5; at++) {
            int place = at;
            x.cut(5, at, true);
            Check.due("one cut at " + at, 5, () -> x.heard(5));
            Check.due("all on, cut at " + at, 6, () -> x.zone(0, 3));
            x.cut(5, place, false);
        }
        x.cut(5, 1, true);
        x.cut(5, 4, true);
        Check.due("1 .. 3 are not heard", 2, () -> x.heard(5));
        Check.due("nor on", 3, () -> x.zone(0, 3));
        x.cut(5, 2, true);
        Check.due("a cut between", 2, () -> x.heard(5));
        x.cut(5, 1, false);
        Check.due("2 and 3 are not heard", 3, () -> x.heard(5));
        Check.due("2", 2, () -> x.unreachable(0));
        Check.due("3", 3, () -> x.unreachable(1));
        x.cut(5, 2, false);
        Check.due("all", 5, () -> x.heard(5));
        Check.due("none", AlarmMatrix.NONE, () -> x.unreachable(0));
        Check.due("another loop", 0, () -> x.heard(4));
    }

    private static void cutBehindTheLastPoint() {
        AlarmMatrix x = new AlarmMatrix(6);
        x.cut(0, 0, true);
        Check.due("the first point comes behind the cut", 1, () -> x.loop(0, 4));
        x.cut(0, 1, true);
        Check.due("between the cuts", 0, () -> x.heard(0));
        x.loop(0, 2);
        Check.due("the new one is behind the last cut", 1, () -> x.heard(0));
        Check.due("the old one is not heard", 4, () -> x.unreachable(0));
        Check.due("the new one is", AlarmMatrix.NONE, () -> x.unreachable(1));
        x.cut(0, 2, true);
        Check.due("now it is not", 2, () -> x.unreachable(0));
    }

    private static void unreachableByNumbers() {
        AlarmMatrix x = new AlarmMatrix(9);
        int[] row = {8, 3, 5};
        for (int point : row) {
            x.loop(0, point);
        }
        x.loop(1, 4);
        x.loop(1, 0);
        x.cut(0, 0, true);
        x.cut(0, 2, true);
        x.cut(1, 0, true);
        x.cut(1, 2, true);
        int[] want = {0, 3, 4, 8, AlarmMatrix.NONE, AlarmMatrix.NONE};
        for (int k = 0; k < want.length; k++) {
            int place = k;
            Check.due("unreachable " + k, want[k], () -> x.unreachable(place));
        }
        Check.due("greatest", AlarmMatrix.NONE, () -> x.unreachable(Integer.MAX_VALUE));
        Check.badArgument("below 0", () -> x.unreachable(-1));
        Check.badArgument("least", () -> x.unreachable(Integer.MIN_VALUE));
        x.fault(1, true);
        x.disable(2, 100);
        Check.due("faulty and disabled ones are heard", AlarmMatrix.NONE, () -> x.unreachable(4));
    }
}
