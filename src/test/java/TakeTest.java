/** Promise 5: what read() takes, and what it leaves as it is. */
final class TakeTest {
    private static final String FIRST = "zone 3 needs 2 of 0 1;act 4 kind 3 rank 9 delay 7;when 3 does 4;hold 4;";
    private static final String SECOND = "zone 5 needs 1 of 0;act 6 kind 1 rank 2 delay 3;";

    public static void main(String[] args) {
        Check.sentence("Promise 5", "instead of what was there", TakeTest::insteadOfWhatWasThere);
        Check.sentence("Promise 5", "the last zone and act go, too", TakeTest::lastZoneAndActGo);
        Check.sentence("Promise 5", "the empty text instead of what was there", TakeTest::emptyInstead);
        Check.sentence("Promise 5", "a greatest text instead of another one", TakeTest::fullInstead);
        Check.sentence("Promise 5", "if nothing is wrong in it", TakeTest::wrongTextChangesNothing);
        Check.sentence("Promise 5", "what was read before a wrong text goes on", TakeTest::goesOnBehindAWrongText);
        Check.sentence("Promise 5", "all acts are at rest then", TakeTest::allActsAtRest);
        Check.sentence("Promise 5", "without an event", TakeTest::withoutAnEvent);
        Check.sentence("Promise 5", "points, loops and events stay as they are", TakeTest::pointsLoopsEventsStay);
        Check.sentence("Promise 5", "and so does the text", TakeTest::textStays);
        Check.end();
    }

    private static void write(AlarmMatrix x, String text) {
        x.cutText(x.cutText(0));
        Sample.type(x, text);
    }

    private static void insteadOfWhatWasThere() {
        AlarmMatrix x = Sample.read(5, FIRST);
        write(x, SECOND);
        Check.badArgument("not before it is read", () -> x.zone(5, 0));
        Check.due("the old zone till then", 2, () -> x.zone(3, 2));
        Check.due("read", 0, () -> x.read());
        Check.badArgument("the old zone", () -> x.zone(3, 0));
        Check.badArgument("the old act", () -> x.act(4, 0));
        Check.badArgument("the old row", () -> x.row(0, 0));
        Check.due("the new zone", 1, () -> x.zone(5, 2));
        Check.due("the new act", 1, () -> x.act(6, 2));
        Check.due("the new act alone is ranked", 6, () -> x.ranked(0));
        Check.none("no other act is", () -> x.ranked(1));
        write(x, "act 4 kind 2 rank 8 delay 1;zone 3 needs 1 of 4;");
        Check.due("the old numbers anew", 0, () -> x.read());
        Check.due("not held", 0, () -> x.act(4, 5));
        Check.due("another kind", 2, () -> x.act(4, 2));
        Check.due("needs another number", 1, () -> x.zone(3, 2));
        x.signal(0, 100);
        Check.due("the old point is none of it", 0, () -> x.zone(3, 3));
        x.signal(4, 100);
        Check.due("the new one is", 1, () -> x.zone(3, 3));
        Check.due("no row does it", 0, () -> x.ticks(1));
    }

    private static void lastZoneAndActGo() {
        AlarmMatrix x = Sample.read(1, "zone 19 needs 1 of 0;act 19 kind 3 rank 9 delay 0;when 19 does 19;hold 19;");
        x.signal(0, 50);
        Check.due("done", 1, () -> x.ticks(1));
        write(x, "act 0 kind 0 rank 0 delay 0;");
        x.read();
        Check.badArgument("zone 19", () -> x.zone(19, 0));
        Check.badArgument("act 19", () -> x.act(19, 0));
        write(x, "act 19 kind 0 rank 0 delay 0;");
        x.read();
        Check.due("not held", 0, () -> x.act(19, 5));
        Check.due("at rest", 0, () -> x.act(19, 0));
        Check.due("and again", 0, () -> x.read());
        Check.due("at rest still", 0, () -> x.act(19, 0));
    }

    private static void emptyInstead() {
        AlarmMatrix x = Sample.busy();
        write(x, "");
        Check.due("no rows", 0, () -> x.read());
        for (int k = 0; k < 4; k++) {
            int number = k;
            Check.badArgument("zone " + k, () -> x.zone(number, 0));
            Check.badArgument("act " + k, () -> x.act(number, 0));
            Check.badArgument("row " + k, () -> x.row(number, 0));
        }
        Check.none("ranked", () -> x.ranked(0));
        Check.due("nothing happens", 0, () -> x.ticks(20));
        Check.due("nothing is reset", 0, () -> x.reset());
    }

    private static void fullInstead() {
        AlarmMatrix x = Sample.busy();
        write(x, "");
        for (int k = 0; k < 20; k++) {
            x.say(0, 19 - k, 1, 0, 1);
            x.say(1, 19 - k, 0, k / 2, 0);
        }
        for (int k = 0; k < 50; k++) {
            x.say(2, k % 10, 9 - k % 10, 0, 0);
        }
        Check.due("fifty rows", 50, () -> x.read());
        Check.due("and again", 50, () -> x.read());
        Check.due("the first by rank", 0, () -> x.ranked(0));
        Check.due("the last by rank", 19, () -> x.ranked(19));
        Check.none("no more", () -> x.ranked(20));
        Check.due("ten are done", 10, () -> x.ticks(1));
        Check.due("the last row", 0, () -> x.row(49, 2));
    }

    private static AlarmMatrix busyWith(String more) {
        AlarmMatrix x = Sample.busy();
        Sample.type(x, more);
        return x;
    }

    private static void wrongTextChangesNothing() {
        String[] wrong = {"x", "zone", "zone 4 needs 1 of 0", "zone 5 needs 2 of 0;", "zone 0 needs 1 of 1;",
            "act 4 kind 1 rank 99 delay 1", "act 0 kind 1 rank 1 delay 1;", "when 0 does 1", "when 0 & 1 does 0;x",
            "hold 0", "hold 0;hold 3;hold 3;", "hold 1;", "zone 4 needs 1 of 1;act 4 kind 1 rank 99 delay 0;when 4 does 4;!"};
        for (String more : wrong) {
            Refused.changesNothing("read() with " + more, () -> busyWith(more), x -> x.read());
        }
    }

    private static void goesOnBehindAWrongText() {
        AlarmMatrix x = Sample.read(5, FIRST);
        x.signal(0, 60);
        x.signal(1, 60);
        x.fault(4, true);
        Sample.type(x, "act 5 kind 1 rank 1 delay 1;zone 4 needs 1 of 2;when 3 & 4 does 5;zone");
        Check.due("wrong", -1 - 49, () -> x.read());
        Check.badArgument("no new act", () -> x.act(5, 0));
        Check.badArgument("no new zone", () -> x.zone(4, 0));
        Check.badArgument("no new row", () -> x.row(1, 0));
        Check.due("the old act is done", 1, () -> x.ticks(1));
        Check.due("wrong still", -1 - 49, () -> x.read());
        Check.due("done still", 2, () -> x.act(4, 0));
        x.cutText(4);
        Check.due("right", 2, () -> x.read());
        Check.due("at rest", 0, () -> x.act(4, 0));
        Check.due("the new act", 1, () -> x.act(5, 4));
    }

    private static void allActsAtRest() {
        AlarmMatrix x = Sample.busy();
        Check.due("waits", 1, () -> x.act(0, 0));
        Check.due("is done, and latches", 2, () -> x.act(1, 0));
        Check.due("read", 4, () -> x.read());
        for (int k = 0; k < 4; k++) {
            int act = k;
            Check.due("state of act " + k, 0, () -> x.act(act, 0));
            Check.none("since when act " + k + " waits", () -> x.act(act, 1));
        }
        Check.due("none waits for a look", 0, () -> x.person(0));
        Check.due("none can be confirmed", 0, () -> x.person(1));
        Check.due("none can be reset", 0, () -> x.reset());
        Check.due("they wait anew", 0, () -> x.ticks(1));
        Check.due("since this TIME", 4, () -> x.act(0, 1));
        Check.due("both may be looked at", 2, () -> x.person(0));
        Check.due("read once more", 4, () -> x.read());
        Check.due("at rest once more", 0, () -> x.act(0, 0));
        confirmationsGo();
    }

    private static void confirmationsGo() {
        AlarmMatrix x = Sample.busy();
        Check.due("confirmed", 2, () -> x.person(1));
        x.read();
        Check.due("they wait anew, not confirmed", 0, () -> x.ticks(2));
        Check.due("they can be confirmed", 2, () -> x.person(1));
    }

    private static void withoutAnEvent() {
        AlarmMatrix x = Sample.busy();
        Check.badArgument("one event before", () -> x.event(1, 0));
        x.read();
        Check.badArgument("one event behind", () -> x.event(1, 0));
        Check.due("it is the old one", 1, () -> x.event(0, 0));
        Check.due("and tells done", 1, () -> x.event(0, 2));
    }

    private static void pointsLoopsEventsStay() {
        AlarmMatrix x = Sample.busy();
        write(x, SECOND);
        x.read();
        Check.due("value", 60, () -> x.signal(0, 60));
        Check.due("value of another", 99, () -> x.signal(4, 99));
        Check.yes("faulty", () -> x.fault(3, true));
        Check.due("disabled", 50, () -> x.disable(3, 50));
        Check.due("in a loop", 1, () -> x.heard(1));
        Check.due("not heard", 3, () -> x.unreachable(0));
        Check.yes("cut", () -> x.cut(0, 1, true));
        Check.due("an act's event, though it is told no more", 1, () -> x.event(0, 1));
        Check.due("time", 3, () -> x.time());
    }

    private static void textStays() {
        AlarmMatrix x = Sample.read(5, FIRST);
        Check.due("length", FIRST.length(), () -> x.cutText(0));
        Check.due("read anew", 1, () -> x.read());
        Sample.type(x, "what");
        Check.due("wrong", -1 - 25, () -> x.read());
        Check.due("length of a wrong one", FIRST.length() + 4, () -> x.cutText(0));
        Check.due("wrong as before", -1 - 25, () -> x.read());
    }
}
