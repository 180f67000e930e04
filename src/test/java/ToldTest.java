/** Promises 16 to 21: act, zone, row, event, ranked and time. */
final class ToldTest {
    private static final String TEXT = "zone 2 needs 2 of 0 1 2;zone 19 needs 1 of 3;"
        + "act 0 kind 3 rank 40 delay 2;act 19 kind 5 rank 99 delay 600;act 7 kind 0 rank 40 delay 0;"
        + "when 2 does 0;when 19&2 does 19;hold 19;";
    private static final int LEAST = Integer.MIN_VALUE;
    private static final int GREATEST = Integer.MAX_VALUE;

    public static void main(String[] args) {
        Check.sentence("Promise 16", "its state, since when, kind, rank, delay, latches", ToldTest::actIsTold);
        Check.sentence("Promise 16", "since when it waits (NONE if it does not)", ToldTest::actWaitsSince);
        Check.sentence("Promise 16", "illegal argument: there is no such act", ToldTest::actOutOfBounds);
        Check.sentence("Promise 16", "illegal argument: also if the act is not told", ToldTest::actNotTold);
        Check.sentence("Promise 16", "illegal argument: what is not 0 .. 5", ToldTest::actWhat);

        Check.sentence("Promise 17", "on, sure, how many it needs and are on", ToldTest::zoneIsTold);
        Check.sentence("Promise 17", "now", ToldTest::zoneNow);
        Check.sentence("Promise 17", "illegal argument: there is no such zone", ToldTest::zoneOutOfBounds);
        Check.sentence("Promise 17", "illegal argument: also if the zone is not told", ToldTest::zoneNotTold);
        Check.sentence("Promise 17", "illegal argument: what is not 0 .. 3", ToldTest::zoneWhat);

        Check.sentence("Promise 18", "its zones, its act, whether it is met", ToldTest::rowIsTold);
        Check.sentence("Promise 18", "the other one (NONE)", ToldTest::rowOfOneZone);
        Check.sentence("Promise 18", "illegal argument: there is none such", ToldTest::rowNoneSuch);
        Check.sentence("Promise 18", "rows 0 .. 49", ToldTest::fiftyRows);
        Check.sentence("Promise 18", "illegal argument: what is not 0 .. 3", ToldTest::rowWhat);

        Check.sentence("Promise 19", "its TIME, its act, done (1) or rest (0)", ToldTest::eventIsTold);
        Check.sentence("Promise 19", "the k-th latest (from 0 on)", ToldTest::eventsFromTheLatestOn);
        Check.sentence("Promise 19", "events are kept, the latest 60", ToldTest::latestSixtyEvents);
        Check.sentence("Promise 19", "the latest 60, the oldest gone over and over", ToldTest::eventsGoRound);
        Check.sentence("Promise 19", "illegal argument: there is none such", ToldTest::eventNoneSuch);
        Check.sentence("Promise 19", "illegal argument: what is not 0 .. 2", ToldTest::eventWhat);

        Check.sentence("Promise 20", "the act that has so many before it by rank", ToldTest::rankedByRank);
        Check.sentence("Promise 20", "of alike ones by their numbers", ToldTest::rankedByNumber);
        Check.sentence("Promise 20", "NONE if there are no more", ToldTest::rankedNoMore);
        Check.sentence("Promise 20", "illegal argument: place is below 0", ToldTest::rankedBelow0);

        Check.sentence("Promise 21", "the TIME", ToldTest::timeIsTold);
        Check.sentence("Promises 11, 12 and 16 to 21", "what is told changes nothing", ToldTest::tellingChangesNothing);
        Check.end();
    }

    private interface Telling {
        long of(int what);
    }

    private static void tells(String whom, Telling telling, int... want) {
        for (int k = 0; k < want.length; k++) {
            int what = k;
            Check.due(whom + ", " + k, want[k], () -> telling.of(what));
        }
    }

    private static void actTells(AlarmMatrix x, int act, int... want) {
        tells("act " + act, what -> x.act(act, what), want);
    }

    private static void zoneTells(AlarmMatrix x, int zone, int... want) {
        tells("zone " + zone, what -> x.zone(zone, what), want);
    }

    private static void rowTells(AlarmMatrix x, int row, int... want) {
        tells("row " + row, what -> x.row(row, what), want);
    }

    private static void eventTells(AlarmMatrix x, int event, int... want) {
        tells("event " + event, what -> x.event(event, what), want);
    }

    private static void actIsTold() {
        AlarmMatrix x = Sample.read(4, TEXT);
        actTells(x, 0, 0, AlarmMatrix.NONE, 3, 40, 2, 0);
        actTells(x, 19, 0, AlarmMatrix.NONE, 5, 99, 600, 1);
        x.signal(0, 50);
        x.signal(1, 50);
        x.ticks(2);
        actTells(x, 0, 1, 1, 3, 40, 2, 0);
        actTells(x, 19, 0, AlarmMatrix.NONE, 5, 99, 600, 1);
        x.ticks(1);
        actTells(x, 0, 2, AlarmMatrix.NONE, 3, 40, 2, 0);
    }

    private static void actWaitsSince() {
        AlarmMatrix x = Sample.busy();
        Check.due("looked at", 2, () -> x.act(0, 1));
        Check.none("done", () -> x.act(1, 1));
        Check.due("waits", 3, () -> x.act(2, 1));
        Check.none("rests", () -> x.act(3, 1));
        x.signal(0, 0);
        x.ticks(1);
        Check.none("waits no more", () -> x.act(0, 1));
    }

    private static void actOutOfBounds() {
        int[] acts = {LEAST, -1, 20, 256, GREATEST};
        for (int k = 0; k <= 5; k++) {
            int what = k;
            Refused.arguments("act(%d, " + what + ")", acts, (x, n) -> x.act(n, what));
        }
    }

    private static void actNotTold() {
        Refused.argument("act 4", Sample::busy, x -> x.act(4, 0));
        Refused.argument("act 19", Sample::busy, x -> x.act(19, 2));
        AlarmMatrix x = Sample.read(4, TEXT);
        for (int k = 1; k < 19; k++) {
            int act = k;
            if (act != 7) {
                Check.badArgument("act " + k, () -> x.act(act, 0));
            }
        }
        Check.due("the first", 3, () -> x.act(0, 2));
        Check.due("the last", 5, () -> x.act(19, 2));
    }

    private static void actWhat() {
        int[] whats = {LEAST, -1, 6, GREATEST};
        Refused.arguments("act(0, %d)", whats, (x, n) -> x.act(0, n));
    }

    private static void zoneIsTold() {
        AlarmMatrix x = Sample.read(4, TEXT);
        zoneTells(x, 2, 0, 0, 2, 0);
        zoneTells(x, 19, 0, 0, 1, 0);
        x.signal(0, 50);
        zoneTells(x, 2, 0, 0, 2, 1);
        x.signal(2, 100);
        zoneTells(x, 2, 1, 0, 2, 2);
        x.signal(1, 100);
        zoneTells(x, 2, 1, 1, 2, 3);
        x.signal(3, 50);
        zoneTells(x, 19, 1, 1, 1, 1);
    }

    private static void zoneNow() {
        AlarmMatrix x = Sample.read(4, TEXT);
        for (int point = 0; point < 3; point++) {
            x.signal(point, 50);
        }
        zoneTells(x, 2, 1, 1, 2, 3);
        x.fault(0, true);
        zoneTells(x, 2, 1, 1, 2, 2);
        x.disable(1, 5);
        zoneTells(x, 2, 0, 1, 2, 1);
        x.loop(0, 2);
        x.cut(0, 0, true);
        x.cut(0, 1, true);
        zoneTells(x, 2, 0, 0, 2, 0);
        x.cut(0, 0, false);
        zoneTells(x, 2, 0, 1, 2, 1);
        x.ticks(5);
        zoneTells(x, 2, 1, 1, 2, 2);
        x.fault(0, false);
        x.signal(0, 49);
        zoneTells(x, 2, 1, 0, 2, 2);
    }

    private static void zoneOutOfBounds() {
        int[] zones = {LEAST, -1, 20, 256, GREATEST};
        for (int k = 0; k <= 3; k++) {
            int what = k;
            Refused.arguments("zone(%d, " + what + ")", zones, (x, n) -> x.zone(n, what));
        }
    }

    private static void zoneNotTold() {
        Refused.argument("zone 3", Sample::busy, x -> x.zone(3, 0));
        Refused.argument("zone 19", Sample::busy, x -> x.zone(19, 2));
        AlarmMatrix x = Sample.read(4, TEXT);
        for (int k = 0; k < 19; k++) {
            int zone = k;
            if (zone != 2) {
                Check.badArgument("zone " + k, () -> x.zone(zone, 0));
            }
        }
        Check.due("the last", 1, () -> x.zone(19, 2));
    }

    private static void zoneWhat() {
        int[] whats = {LEAST, -1, 4, GREATEST};
        Refused.arguments("zone(0, %d)", whats, (x, n) -> x.zone(0, n));
    }

    private static void rowIsTold() {
        AlarmMatrix x = Sample.read(4, TEXT);
        rowTells(x, 0, 2, AlarmMatrix.NONE, 0, 0);
        rowTells(x, 1, 19, 2, 19, 0);
        x.signal(0, 50);
        x.signal(1, 50);
        rowTells(x, 0, 2, AlarmMatrix.NONE, 0, 1);
        rowTells(x, 1, 19, 2, 19, 0);
        x.signal(3, 50);
        rowTells(x, 1, 19, 2, 19, 1);
        x.signal(0, 0);
        rowTells(x, 0, 2, AlarmMatrix.NONE, 0, 0);
        rowTells(x, 1, 19, 2, 19, 0);
    }

    private static void rowOfOneZone() {
        AlarmMatrix x = Sample.read(4, "zone 0 needs 1 of 0;zone 1 needs 1 of 1;act 0 kind 0 rank 0 delay 0;"
            + "when 1&0 does 0;when 0 does 0;when 0&1 does 0;");
        Check.due("of two, zone 0", 0, () -> x.row(0, 1));
        Check.none("of one", () -> x.row(1, 1));
        Check.due("of two, zone 1", 1, () -> x.row(2, 1));
    }

    private static void rowNoneSuch() {
        int[] rows = {LEAST, -1, 4, 49, 50, GREATEST};
        for (int k = 0; k <= 3; k++) {
            int what = k;
            Refused.arguments("row(%d, " + what + ")", rows, (x, n) -> x.row(n, what));
        }
        Check.due("the first", 0, () -> Sample.busy().row(0, 2));
        Check.due("the last", 3, () -> Sample.busy().row(3, 2));
        AlarmMatrix none = Sample.read(4, "zone 0 needs 1 of 0;");
        Check.badArgument("no rows", () -> none.row(0, 0));
    }

    private static void fiftyRows() {
        AlarmMatrix x = Sample.typed(4, Sample.TWO_ZONES + "act 0 kind 0 rank 0 delay 0;act 1 kind 0 rank 0 delay 0;");
        for (int k = 0; k < 50; k++) {
            x.say(2, k % 2, k / 25, 0, 0);
        }
        x.read();
        rowTells(x, 0, 0, AlarmMatrix.NONE, 0, 0);
        rowTells(x, 24, 0, AlarmMatrix.NONE, 0, 0);
        rowTells(x, 25, 1, AlarmMatrix.NONE, 1, 0);
        rowTells(x, 49, 1, AlarmMatrix.NONE, 1, 0);
        Check.badArgument("row 50", () -> x.row(50, 0));
    }

    private static void rowWhat() {
        int[] whats = {LEAST, -1, 4, GREATEST};
        Refused.arguments("row(0, %d)", whats, (x, n) -> x.row(0, n));
    }

    private static void eventIsTold() {
        AlarmMatrix x = Sample.read(4, TEXT);
        x.ticks(10);
        x.signal(0, 50);
        x.signal(1, 50);
        x.ticks(7);
        eventTells(x, 0, 13, 0, 1);
        x.signal(3, 50);
        x.ticks(1);
        eventTells(x, 0, 18, 19, 1);
        x.signal(1, 0);
        x.ticks(1);
        eventTells(x, 0, 19, 0, 0);
    }

    private static void eventsFromTheLatestOn() {
        AlarmMatrix x = Sample.withEvents(3);
        eventTells(x, 0, 3, 5, 1);
        eventTells(x, 1, 2, 5, 0);
        eventTells(x, 2, 1, 5, 1);
        Check.badArgument("there are three", () -> x.event(3, 0));
    }

    private static void latestSixtyEvents() {
        AlarmMatrix x = Sample.withEvents(59);
        eventTells(x, 58, 1, 5, 1);
        Check.badArgument("the sixtieth is not there yet", () -> x.event(59, 0));
        AlarmMatrix y = Sample.withEvents(60);
        eventTells(y, 0, 60, 5, 0);
        eventTells(y, 59, 1, 5, 1);
        Check.badArgument("sixty", () -> y.event(60, 0));
        AlarmMatrix z = Sample.withEvents(61);
        eventTells(z, 0, 61, 5, 1);
        eventTells(z, 1, 60, 5, 0);
        eventTells(z, 59, 2, 5, 0);
        Check.badArgument("sixty still", () -> z.event(60, 0));
    }

    private static void eventsGoRound() {
        int[] counts = {75, 119, 120, 121, 180};
        for (int count : counts) {
            AlarmMatrix x = Sample.withEvents(count);
            for (int k = 0; k < 60; k += 59) {
                int time = count - k;
                eventTells(x, k, time, 5, time % 2);
            }
            eventTells(x, 14, count - 14, 5, (count - 14) % 2);
            Check.badArgument("sixty of " + count, () -> x.event(60, 0));
        }
    }

    private static void eventNoneSuch() {
        Refused.argument("none at all", () -> new AlarmMatrix(6), x -> x.event(0, 0));
        int[] events = {LEAST, -1, 1, 59, 60, GREATEST};
        for (int k = 0; k <= 2; k++) {
            int what = k;
            Refused.arguments("event(%d, " + what + ")", events, (x, n) -> x.event(n, what));
        }
        Refused.argument("the sixty-first", () -> Sample.withEvents(70), x -> x.event(60, 0));
        Refused.argument("below the latest of many", () -> Sample.withEvents(70), x -> x.event(-1, 0));
    }

    private static void eventWhat() {
        int[] whats = {LEAST, -1, 3, GREATEST};
        Refused.arguments("event(0, %d)", whats, (x, n) -> x.event(0, n));
    }

    private static void rankedByRank() {
        AlarmMatrix x = Sample.read(4, TEXT);
        Check.due("none before it", 19, () -> x.ranked(0));
        Check.due("one before it", 0, () -> x.ranked(1));
        Check.due("two before it", 7, () -> x.ranked(2));
        AlarmMatrix y = Sample.read(1, "act 3 kind 0 rank 0 delay 0;act 2 kind 0 rank 1 delay 0;"
            + "act 1 kind 0 rank 99 delay 0;act 0 kind 0 rank 98 delay 0;");
        tells("ranked", place -> y.ranked(place), 1, 0, 2, 3, AlarmMatrix.NONE);
    }

    private static void rankedByNumber() {
        AlarmMatrix x = new AlarmMatrix(1);
        for (int act = 19; act >= 0; act--) {
            x.say(1, act * 7 % 20, 0, 50, 0);
        }
        x.read();
        for (int k = 0; k < 20; k++) {
            int place = k;
            Check.due("all alike, place " + k, k, () -> x.ranked(place));
        }
        AlarmMatrix y = new AlarmMatrix(1);
        for (int act = 0; act < 20; act++) {
            y.say(1, act, 0, act % 5, 0);
        }
        y.read();
        for (int k = 0; k < 20; k++) {
            int place = k;
            Check.due("four alike, place " + k, 4 - k / 4 + k % 4 * 5, () -> y.ranked(place));
        }
    }

    private static void rankedNoMore() {
        int[] places = {4, 5, 19, 20, GREATEST};
        for (int place : places) {
            Check.none("place " + place + " of 4", () -> Sample.busy().ranked(place));
        }
        Check.none("place 0 of none", () -> new AlarmMatrix(1).ranked(0));
        AlarmMatrix x = new AlarmMatrix(1);
        for (int act = 0; act < 20; act++) {
            x.say(1, act, 0, 0, 0);
        }
        x.read();
        Check.due("place 19 of 20", 19, () -> x.ranked(19));
        Check.none("place 20 of 20", () -> x.ranked(20));
    }

    private static void rankedBelow0() {
        Refused.argument("ranked(-1)", Sample::busy, x -> x.ranked(-1));
        Refused.argument("ranked of the least", Sample::busy, x -> x.ranked(LEAST));
        Refused.argument("ranked(-1) of none", () -> new AlarmMatrix(6), x -> x.ranked(-1));
    }

    private static void timeIsTold() {
        AlarmMatrix x = new AlarmMatrix(1);
        Check.due("0 at first", 0, () -> x.time());
        x.ticks(1);
        Check.due("1", 1, () -> x.time());
        x.ticks(200);
        Check.due("201", 201, () -> x.time());
        Check.badArgument("refused", () -> x.ticks(201));
        Check.due("201 still", 201, () -> x.time());
        Check.due("the greatest", 20000, () -> Sample.atTime(20000).time());
    }

    private static void tellingChangesNothing() {
        Refused.changesNothing("time()", Sample::busy, x -> x.time());
        Refused.changesNothing("ranked(0)", Sample::busy, x -> x.ranked(0));
        Refused.changesNothing("heard(0)", Sample::busy, x -> x.heard(0));
        Refused.changesNothing("unreachable(0)", Sample::busy, x -> x.unreachable(0));
        Refused.changesNothing("event(0, 0)", Sample::busy, x -> x.event(0, 0));
        for (int k = 0; k < 4; k++) {
            int what = k;
            Refused.changesNothing("act(0, " + k + ")", Sample::busy, x -> x.act(0, what));
            Refused.changesNothing("zone(0, " + k + ")", Sample::busy, x -> x.zone(0, what));
            Refused.changesNothing("row(0, " + k + ")", Sample::busy, x -> x.row(0, what));
        }
    }
}
