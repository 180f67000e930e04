/** Promises 16 to 21: act, zone, row, event, ranked and time. */
final class ToldTest {
    private static final String TEXT = "zone 2 needs 2 of 0 1 2;zone 19 needs 1 of 3;"
        + "act 0 kind 3 rank 40 delay 2;act 19 kind 5 rank 99 delay 600;act 7 kind 0 rank 40 delay 0;"
        + "when 2 does 0;when 19&2 does 19;hold 19;";

    public static void main(String[] args) {
        acts();
        zones();
        rows();
        events();
        latestSixtyEvents();
        ranks();
        allActsRanked();
        Check.end();
    }

    private interface Telling {
        long of(int what);
    }

    private static void tells(String whom, Telling telling, int... want) {
        for (int k = 0; k < want.length; k++) {
            int what = k;
            Check.due(whom + ", " + k, want[k], () -> telling.of(what));
        }
    }

    private static void actTells(AlarmMatrix x, int act, int... want) {
        tells("act " + act, what -> x.act(act, what), want);
    }

    private static void acts() {
        AlarmMatrix x = Check.readNew(4, TEXT);
        actTells(x, 0, 0, AlarmMatrix.NONE, 3, 40, 2, 0);
        actTells(x, 19, 0, AlarmMatrix.NONE, 5, 99, 600, 1);
        x.signal(0, 50);
        x.signal(1, 50);
        x.ticks(2);
        actTells(x, 0, 1, 1, 3, 40, 2, 0);
        x.ticks(1);
        actTells(x, 0, 2, AlarmMatrix.NONE, 3, 40, 2, 0);
        int[] untold = {1, 18, 20, -1, Integer.MAX_VALUE, Integer.MIN_VALUE};
        for (int act : untold) {
            Check.badArgument("act " + act, () -> x.act(act, 0));
        }
        Check.badArgument("what 6", () -> x.act(0, 6));
        Check.badArgument("what -1", () -> x.act(0, -1));
    }

    private static void zoneTells(AlarmMatrix x, int zone, int... want) {
        tells("zone " + zone, what -> x.zone(zone, what), want);
    }

    private static void zones() {
        AlarmMatrix x = Check.readNew(4, TEXT);
        zoneTells(x, 2, 0, 0, 2, 0);
        zoneTells(x, 19, 0, 0, 1, 0);
        x.signal(0, 50);
        zoneTells(x, 2, 0, 0, 2, 1);
        x.signal(2, 100);
        zoneTells(x, 2, 1, 0, 2, 2);
        x.signal(1, 100);
        zoneTells(x, 2, 1, 1, 2, 3);
        x.fault(0, true);
        zoneTells(x, 2, 1, 1, 2, 2);
        x.disable(1, 5);
        zoneTells(x, 2, 0, 1, 2, 1);
        x.fault(2, true);
        zoneTells(x, 2, 0, 0, 2, 0);
        x.signal(3, 50);
        zoneTells(x, 19, 1, 1, 1, 1);
        int[] untold = {0, 18, 20, -1, Integer.MAX_VALUE, Integer.MIN_VALUE};
        for (int zone : untold) {
            Check.badArgument("zone " + zone, () -> x.zone(zone, 0));
        }
        Check.badArgument("what 4", () -> x.zone(2, 4));
        Check.badArgument("what -1", () -> x.zone(2, -1));
    }

    private static void rowTells(AlarmMatrix x, int row, int... want) {
        tells("row " + row, what -> x.row(row, what), want);
    }

    private static void rows() {
        AlarmMatrix x = Check.readNew(4, TEXT);
        rowTells(x, 0, 2, AlarmMatrix.NONE, 0, 0);
        rowTells(x, 1, 19, 2, 19, 0);
        x.signal(0, 50);
        x.signal(1, 50);
        rowTells(x, 0, 2, AlarmMatrix.NONE, 0, 1);
        rowTells(x, 1, 19, 2, 19, 0);
        x.signal(3, 50);
        rowTells(x, 1, 19, 2, 19, 1);
        x.signal(0, 0);
        rowTells(x, 0, 2, AlarmMatrix.NONE, 0, 0);
        rowTells(x, 1, 19, 2, 19, 0);
        int[] none = {2, 49, 50, -1, Integer.MAX_VALUE, Integer.MIN_VALUE};
        for (int row : none) {
            Check.badArgument("row " + row, () -> x.row(row, 0));
        }
        Check.badArgument("what 4", () -> x.row(0, 4));
        Check.badArgument("what -1", () -> x.row(0, -1));
    }

    private static void eventTells(AlarmMatrix x, int event, int... want) {
        tells("event " + event, what -> x.event(event, what), want);
    }

    private static void events() {
        AlarmMatrix x = Check.readNew(4, TEXT);
        x.ticks(10);
        Check.badArgument("none yet", () -> x.event(0, 0));
        x.signal(0, 50);
        x.signal(1, 50);
        x.ticks(7);
        eventTells(x, 0, 13, 0, 1);
        Check.badArgument("one alone", () -> x.event(1, 0));
        x.signal(3, 50);
        x.ticks(1);
        eventTells(x, 0, 18, 19, 1);
        x.signal(1, 0);
        x.ticks(1);
        eventTells(x, 0, 19, 0, 0);
        eventTells(x, 1, 18, 19, 1);
        eventTells(x, 2, 13, 0, 1);
        Check.badArgument("three", () -> x.event(3, 0));
        Check.badArgument("below 0", () -> x.event(-1, 0));
        Check.badArgument("what 3", () -> x.event(0, 3));
        Check.badArgument("what -1", () -> x.event(0, -1));
        Check.due("time", 19, () -> x.time());
    }

    private static void latestSixtyEvents() {
        AlarmMatrix x = Check.readNew(1, "zone 0 needs 1 of 0;act 5 kind 0 rank 0 delay 0;when 0 does 5;");
        for (int k = 1; k <= 60; k++) {
            x.signal(0, k % 2 * 100);
            x.ticks(1);
        }
        eventTells(x, 59, 1, 5, 1);
        eventTells(x, 0, 60, 5, 0);
        Check.badArgument("sixty", () -> x.event(60, 0));
        for (int k = 61; k <= 75; k++) {
            x.signal(0, k % 2 * 100);
            x.ticks(1);
        }
        eventTells(x, 0, 75, 5, 1);
        eventTells(x, 14, 61, 5, 1);
        eventTells(x, 15, 60, 5, 0);
        eventTells(x, 59, 16, 5, 0);
        Check.badArgument("sixty still", () -> x.event(60, 0));
        Check.badArgument("greatest", () -> x.event(Integer.MAX_VALUE, 0));
    }

    private static void ranks() {
        AlarmMatrix x = Check.readNew(4, TEXT);
        int[] want = {19, 0, 7, AlarmMatrix.NONE, AlarmMatrix.NONE};
        for (int k = 0; k < want.length; k++) {
            int place = k;
            Check.due("place " + k, want[k], () -> x.ranked(place));
        }
        Check.due("greatest place", AlarmMatrix.NONE, () -> x.ranked(Integer.MAX_VALUE));
        Check.badArgument("below 0", () -> x.ranked(-1));
        Check.badArgument("least", () -> x.ranked(Integer.MIN_VALUE));
    }

    private static void allActsRanked() {
        AlarmMatrix x = new AlarmMatrix(1);
        for (int act = 0; act < 20; act++) {
            x.say(1, act, 0, act * 7 % 5, 0);
        }
        Check.due("read", 0, () -> x.read());
        int place = 0;
        for (int rank = 4; rank >= 0; rank--) {
            for (int act = 0; act < 20; act++) {
                if (act * 7 % 5 == rank) {
                    int at = place++;
                    Check.due("place " + at, act, () -> x.ranked(at));
                }
            }
        }
        Check.due("no more", AlarmMatrix.NONE, () -> x.ranked(20));
        Check.due("none is called", 0, () -> x.ticks(1));
        Check.due("none latches", 0, () -> x.reset());
    }
}
