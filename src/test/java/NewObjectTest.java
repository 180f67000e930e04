/** Promise 1. */
final class NewObjectTest {
    public static void main(String[] args) {
        Check.sentence("Promise 1", "so many points", NewObjectTest::soManyPoints);
        Check.sentence("Promise 1", "below 1 counts as 1", NewObjectTest::below1CountsAs1);
        Check.sentence("Promise 1", "above 200 as 200", NewObjectTest::above200CountsAs200);
        Check.sentence("Promise 1", "no loops", NewObjectTest::noLoops);
        Check.sentence("Promise 1", "an empty text", NewObjectTest::anEmptyText);
        Check.sentence("Promise 1", "nothing read", NewObjectTest::nothingRead);
        Check.sentence("Promise 1", "one object knows nothing of another", NewObjectTest::objectsAreApart);
        Check.sentence("Terms", "a point is alive at first, not disabled, its value 0", NewObjectTest::pointsAtFirst);
        Check.sentence("Terms", "TIME is 0 at first", NewObjectTest::timeAtFirst);
        Check.sentence("Terms", "no events at first", NewObjectTest::noEventsAtFirst);
        Check.end();
    }

    private static void lastPoint(int points, int last) {
        AlarmMatrix x = new AlarmMatrix(points);
        Check.due("point 0 of " + points, 0, () -> x.signal(0, 0));
        Check.due("last of " + points, 0, () -> x.signal(last, 7));
        Check.badArgument("behind the last of " + points, () -> x.signal(last + 1, 7));
        x.say(0, 0, 1, last, 1);
        Check.due("last of " + points + " in a text", 0, () -> x.read());
        x.say(0, 1, 1, last + 1, 1);
        Check.due("behind the last of " + points + " in a text", -1 - 12, () -> x.read());
    }

    private static void soManyPoints() {
        lastPoint(1, 0);
        lastPoint(2, 1);
        lastPoint(77, 76);
        lastPoint(199, 198);
        lastPoint(200, 199);
    }

    private static void below1CountsAs1() {
        lastPoint(0, 0);
        lastPoint(-1, 0);
        lastPoint(-200, 0);
        lastPoint(Integer.MIN_VALUE, 0);
    }

    private static void above200CountsAs200() {
        lastPoint(201, 199);
        lastPoint(1000, 199);
        lastPoint(Integer.MAX_VALUE, 199);
    }

    private static void noLoops() {
        AlarmMatrix x = new AlarmMatrix(200);
        for (int k = 0; k < 8; k++) {
            int loop = k;
            Check.due("points of loop " + k, 0, () -> x.heard(loop));
            Check.no("a cut of loop " + k, () -> x.cut(loop, 0, false));
            Check.badArgument("a second place of loop " + k, () -> x.cut(loop, 1, false) ? 1 : 0);
        }
        Check.none("all are heard", () -> x.unreachable(0));
        for (int k = 0; k < 200; k++) {
            int point = k;
            Check.due("point " + k + " is in no loop", 1 + point % 25, () -> x.loop(point / 25, point));
        }
    }

    private static void anEmptyText() {
        AlarmMatrix x = new AlarmMatrix(200);
        Check.due("its length", 0, () -> x.cutText(0));
        Check.badArgument("nothing to cut", () -> x.cutText(1));
        Check.due("it has no row, and nothing wrong", 0, () -> x.read());
    }

    private static void nothingRead() {
        AlarmMatrix x = new AlarmMatrix(200);
        for (int k = 0; k < 20; k++) {
            int number = k;
            Check.badArgument("zone " + k, () -> x.zone(number, 0));
            Check.badArgument("act " + k, () -> x.act(number, 0));
        }
        Check.badArgument("row 0", () -> x.row(0, 0));
        Check.none("ranked", () -> x.ranked(0));
        Check.due("none waits for a look", 0, () -> x.person(0));
        Check.due("none can be confirmed", 0, () -> x.person(1));
        Check.due("none can be reset", 0, () -> x.reset());
        x.signal(0, 100);
        Check.due("nothing happens", 0, () -> x.ticks(200));
    }

    private static void objectsAreApart() {
        AlarmMatrix x = Sample.busy();
        AlarmMatrix y = new AlarmMatrix(6);
        Check.due("the other one's values", 0, () -> y.signal(0, 0));
        Check.due("the other one's time", 0, () -> y.time());
        Check.due("the other one's text", 0, () -> y.cutText(0));
        Check.due("the other one's loops", 0, () -> y.heard(1));
        Check.badArgument("the other one's acts", () -> y.act(0, 0));
        Check.badArgument("the other one's events", () -> y.event(0, 0));
        Check.due("this one's time", 3, () -> x.time());
    }

    private static void pointsAtFirst() {
        AlarmMatrix x = new AlarmMatrix(200);
        for (int k = 0; k < 200; k += 199) {
            int point = k;
            Check.due("value", 0, () -> x.signal(point, 0));
            Check.no("faulty", () -> x.fault(point, false));
            Check.due("disabled until", 0, () -> x.disable(point, 0));
        }
        AlarmMatrix y = Sample.read(1, "zone 0 needs 1 of 0;");
        Check.due("not on", 0, () -> y.zone(0, 3));
        y.signal(0, 50);
        Check.due("on by its value alone", 1, () -> y.zone(0, 3));
    }

    private static void timeAtFirst() {
        Check.due("time", 0, () -> new AlarmMatrix(3).time());
    }

    private static void noEventsAtFirst() {
        AlarmMatrix x = new AlarmMatrix(3);
        Check.badArgument("the latest", () -> x.event(0, 0));
        Check.badArgument("the sixtieth", () -> x.event(59, 0));
    }
}
