/** Promise 13, with the sentences of "A TICK". */
final class TickTest {
    public static void main(String[] args) {
        Check.sentence("Promise 13", "n ticks: how many events there were", TickTest::howManyEvents);
        Check.sentence("Promise 13", "illegal argument: n is not 1 .. 200", TickTest::ticksOutOfBounds);
        Check.sentence("Promise 13", "illegal state: TIME would be above 20000", TickTest::timeAbove20000);
        Check.sentence("Promise 13", "TIME may be 20000", TickTest::timeUpTo20000);
        Check.sentence("Promise 13", "of several exceptions the one named first", TickTest::argumentBeforeState);

        Check.sentence("Promise 13, a tick", "TIME grows by 1", TickTest::timeGrows);
        Check.sentence("Promise 13, a tick", "a disabled point within n ticks", TickTest::disabledEndsWithinTicks);
        Check.sentence("Promise 13, a tick", "on if as many of its points as it needs are", TickTest::zoneIsOn);
        Check.sentence("Promise 13, a tick", "sure if all that count are on", TickTest::zoneIsSure);
        Check.sentence("Promise 13, a tick", "sure, and there is one", TickTest::zoneWithNoPointIsNotSure);
        Check.sentence("Promise 13, a tick", "a row is met if its zones are on", TickTest::rowIsMet);
        Check.sentence("Promise 13, a tick", "called if a row with it is met", TickTest::actIsCalled);
        Check.sentence("Promise 13, a tick", "since the TIME in which it is called first", TickTest::waitsSinceThisTime);
        Check.sentence("Promise 13, a tick", "called no more it rests again", TickTest::waitsNoMore);
        Check.sentence("Promise 13, a tick", "TIME is its beginning and its delay", TickTest::delayIsOver);
        Check.sentence("Promise 13, a tick", "a delay of 0, and of 600", TickTest::leastAndGreatestDelay);
        Check.sentence("Promise 13, a tick", "a zone of a row of it that is met is sure", TickTest::sureZoneOfARow);
        Check.sentence("Promise 13, a tick", "a sure zone of a row that is not met", TickTest::sureZoneOfARowNotMet);
        Check.sentence("Promise 13, a tick", "a sure zone of another act's row", TickTest::sureZoneOfAnotherAct);
        Check.sentence("Promise 13, a tick", "it is done: an event", TickTest::doneOnce);
        Check.sentence("Promise 13, a tick", "done, and called no more, it rests (an event)", TickTest::restsAgain);
        Check.sentence("Promise 13, a tick", "unless it latches", TickTest::latches);
        Check.sentence("Promise 13, a tick", "acts go by rank; of alike ones by numbers", TickTest::goByRank);
        Check.end();
    }

    private static AlarmMatrix read(String more) {
        return Sample.read(4, Sample.TWO_ZONES + more);
    }

    private static void howManyEvents() {
        AlarmMatrix x = read("act 0 kind 0 rank 0 delay 3;act 1 kind 0 rank 0 delay 0;when 0 does 0;when 0 does 1;");
        Check.due("none", 0, () -> x.ticks(200));
        x.signal(0, 50);
        Check.due("one", 1, () -> x.ticks(1));
        Check.due("none, one waits", 0, () -> x.ticks(2));
        Check.due("one more", 1, () -> x.ticks(1));
        Check.due("none, both are done", 0, () -> x.ticks(200));
        x.signal(0, 0);
        Check.due("both rest", 2, () -> x.ticks(200));
        x.signal(0, 50);
        Check.due("both, at seconds of their own", 2, () -> x.ticks(200));
        manyEvents();
    }

    private static void manyEvents() {
        AlarmMatrix x = Sample.twentyActs(0, false);
        x.signal(0, 50);
        Check.due("all 20 are done", 20, () -> x.ticks(1));
        x.disable(0, 100);
        Check.due("all 20 rest, and are done again", 40, () -> x.ticks(200));
        x.disable(0, 300);
        Check.due("more than are kept count, too", 40, () -> x.ticks(200));
    }

    private static void ticksOutOfBounds() {
        int[] others = {Integer.MIN_VALUE, -1, 0, 201, Integer.MAX_VALUE};
        Refused.arguments("ticks(%d)", others, (x, n) -> x.ticks(n));
        AlarmMatrix x = new AlarmMatrix(1);
        Check.due("1", 0, () -> x.ticks(1));
        Check.due("200", 0, () -> x.ticks(200));
        Check.due("time", 201, () -> x.time());
    }

    private static void timeAbove20000() {
        Refused.state("20000 and 1", () -> Sample.atTime(20000), x -> x.ticks(1));
        Refused.state("20000 and 200", () -> Sample.atTime(20000), x -> x.ticks(200));
        Refused.state("19999 and 2", () -> Sample.atTime(19999), x -> x.ticks(2));
        Refused.state("19801 and 200", () -> Sample.atTime(19801), x -> x.ticks(200));
    }

    private static void timeUpTo20000() {
        AlarmMatrix x = Sample.atTime(19800);
        Check.due("19800 and 200", 2, () -> x.ticks(200));
        Check.due("time", 20000, () -> x.time());
        AlarmMatrix y = Sample.atTime(19999);
        y.person(1);
        Check.due("what happens in the last second", 2, () -> y.ticks(1));
        Check.due("its time", 20000, () -> y.event(0, 0));
    }

    private static void argumentBeforeState() {
        int[] others = {Integer.MIN_VALUE, -1, 0, 201, Integer.MAX_VALUE};
        for (int n : others) {
            Refused.argument("ticks(" + n + ") at the end", () -> Sample.atTime(20000), x -> x.ticks(n));
        }
    }

    private static void timeGrows() {
        AlarmMatrix x = new AlarmMatrix(1);
        x.ticks(1);
        Check.due("1", 1, () -> x.time());
        x.ticks(1);
        Check.due("2", 2, () -> x.time());
        x.ticks(17);
        Check.due("19", 19, () -> x.time());
    }

    private static void disabledEndsWithinTicks() {
        AlarmMatrix x = read("act 3 kind 0 rank 0 delay 0;when 0 does 3;");
        x.signal(0, 50);
        x.disable(0, 7);
        Check.due("done within", 1, () -> x.ticks(20));
        Check.due("at 7", 7, () -> x.event(0, 0));
        x.disable(0, 25);
        Check.due("rests and is done again", 2, () -> x.ticks(20));
        Check.due("rests at 21", 21, () -> x.event(1, 0));
        Check.due("rest", 0, () -> x.event(1, 2));
        Check.due("done at 25", 25, () -> x.event(0, 0));
        Check.due("done", 1, () -> x.event(0, 2));
    }

    private static void zoneIsOn() {
        for (int needs = 1; needs <= 12; needs++) {
            AlarmMatrix x = new AlarmMatrix(12);
            x.say(0, 0, needs, 0, 12);
            x.say(1, 0, 0, 0, 0);
            x.say(2, 0, 0, 0, 0);
            x.read();
            for (int point = 0; point < 12; point++) {
                x.signal(point, 100);
                int on = point + 1;
                String what = on + " on, needs " + needs;
                Check.due(what, on >= needs ? 1 : 0, () -> x.zone(0, 0));
                Check.due("event, " + what, on == needs ? 1 : 0, () -> x.ticks(1));
            }
        }
    }

    private static AlarmMatrix oneOfTwo() {
        AlarmMatrix x = read("act 0 kind 0 rank 0 delay 600;when 0 does 0;");
        x.signal(0, 50);
        x.ticks(1);
        Check.due("one of two is not sure", 0, () -> x.zone(0, 1));
        return x;
    }

    private static void isSure(String why, AlarmMatrix x) {
        Check.due("sure: " + why, 1, () -> x.zone(0, 1));
        Check.due("done: " + why, 1, () -> x.ticks(1));
    }

    private static void zoneIsSure() {
        AlarmMatrix both = oneOfTwo();
        both.signal(1, 50);
        isSure("both on", both);
        AlarmMatrix faulty = oneOfTwo();
        faulty.fault(1, true);
        isSure("the other is faulty", faulty);
        AlarmMatrix disabled = oneOfTwo();
        disabled.disable(1, 3);
        isSure("the other is disabled", disabled);
        AlarmMatrix enabled = oneOfTwo();
        enabled.disable(1, 2);
        Check.due("disabled till the next tick: sure now", 1, () -> enabled.zone(0, 1));
        Check.due("but not in the tick", 0, () -> enabled.ticks(1));
        AlarmMatrix unheard = oneOfTwo();
        unheard.loop(0, 1);
        unheard.cut(0, 0, true);
        Check.due("one cut: it is heard", 0, () -> unheard.zone(0, 1));
        unheard.cut(0, 1, true);
        isSure("the other is not heard", unheard);
    }

    private static void zoneWithNoPointIsNotSure() {
        AlarmMatrix x = oneOfTwo();
        x.signal(1, 50);
        x.fault(0, true);
        x.fault(1, true);
        Check.due("all faulty", 0, () -> x.zone(0, 1));
        x.fault(1, false);
        x.disable(1, 9);
        Check.due("faulty or disabled", 0, () -> x.zone(0, 1));
        x.disable(1, 0);
        x.loop(7, 1);
        x.cut(7, 0, true);
        x.cut(7, 1, true);
        Check.due("faulty or not heard", 0, () -> x.zone(0, 1));
        x.cut(7, 0, false);
        Check.due("there is one", 1, () -> x.zone(0, 1));
        x.signal(1, 49);
        Check.due("there is one, and it is not on", 0, () -> x.zone(0, 1));
    }

    private static void rowIsMet() {
        AlarmMatrix x = read("act 3 kind 0 rank 0 delay 0;when 0&1 does 3;");
        x.signal(0, 50);
        x.signal(1, 50);
        Check.due("the first zone alone", 0, () -> x.row(0, 3));
        Check.due("nothing happens", 0, () -> x.ticks(20));
        x.signal(0, 0);
        x.signal(1, 0);
        x.signal(2, 50);
        x.signal(3, 50);
        Check.due("the other zone alone", 0, () -> x.row(0, 3));
        Check.due("nothing happens still", 0, () -> x.ticks(20));
        x.signal(0, 50);
        Check.due("both", 1, () -> x.row(0, 3));
        Check.due("done", 1, () -> x.ticks(1));
    }

    private static void actIsCalled() {
        AlarmMatrix x = read("act 3 kind 0 rank 0 delay 9;act 4 kind 0 rank 0 delay 0;"
            + "when 0 does 3;when 1 does 3;when 1 does 4;");
        x.signal(0, 50);
        Check.due("by its first row", 0, () -> x.ticks(1));
        Check.due("it waits", 1, () -> x.act(3, 0));
        Check.due("the other is not called", 0, () -> x.act(4, 0));
        x.signal(2, 50);
        Check.due("both are called", 1, () -> x.ticks(1));
        x.signal(0, 0);
        x.ticks(1);
        Check.due("it is called by its second row, and waits on", 1, () -> x.act(3, 1));
        x.signal(2, 0);
        Check.due("no row is met: the other rests", 1, () -> x.ticks(1));
        Check.due("it waits no more", 0, () -> x.act(3, 0));
    }

    private static void waitsSinceThisTime() {
        AlarmMatrix x = read("act 0 kind 0 rank 0 delay 600;when 0 does 0;");
        x.ticks(4);
        x.signal(0, 50);
        Check.due("at rest till a tick", 0, () -> x.act(0, 0));
        x.ticks(3);
        Check.due("waits", 1, () -> x.act(0, 0));
        Check.due("since the first of three ticks", 5, () -> x.act(0, 1));
        x.signal(0, 60);
        x.ticks(3);
        Check.due("since then still", 5, () -> x.act(0, 1));
    }

    private static void waitsNoMore() {
        AlarmMatrix x = read("act 0 kind 0 rank 0 delay 3;when 0 does 0;hold 0;");
        x.signal(0, 50);
        x.ticks(3);
        x.signal(0, 49);
        Check.due("it waits till the tick", 1, () -> x.act(0, 0));
        Check.due("no event, though its delay would be over", 0, () -> x.ticks(1));
        Check.due("at rest, though it latches", 0, () -> x.act(0, 0));
        Check.none("waits no more", () -> x.act(0, 1));
        x.signal(0, 50);
        Check.due("it waits from the beginning", 0, () -> x.ticks(3));
        Check.due("since 5", 5, () -> x.act(0, 1));
        Check.due("done", 1, () -> x.ticks(1));
    }

    private static void delayIsOver() {
        for (int delay = 1; delay <= 5; delay++) {
            AlarmMatrix x = read("act 0 kind 0 rank 0 delay " + delay + ";when 0 does 0;");
            x.ticks(2);
            x.signal(0, 50);
            String what = "delay " + delay;
            int waited = delay;
            Check.due(what + ", one second less", 0, () -> x.ticks(waited));
            Check.due(what + ", waits", 1, () -> x.act(0, 0));
            Check.due(what + ", over", 1, () -> x.ticks(1));
            Check.due(what + ", its time", 3 + delay, () -> x.event(0, 0));
        }
    }

    private static void leastAndGreatestDelay() {
        AlarmMatrix x = read("act 0 kind 0 rank 0 delay 0;act 1 kind 0 rank 0 delay 600;when 0 does 0;when 0 does 1;");
        x.signal(0, 50);
        Check.due("0: done in the tick that calls it", 1, () -> x.ticks(1));
        Check.due("done", 2, () -> x.act(0, 0));
        x.ticks(199);
        x.ticks(200);
        Check.due("600: not at 600", 0, () -> x.ticks(200));
        Check.due("at 601", 1, () -> x.ticks(1));
        Check.due("its time", 601, () -> x.event(0, 0));
    }

    private static AlarmMatrix rowOfTwo() {
        AlarmMatrix x = read("act 3 kind 0 rank 0 delay 5;when 0&1 does 3;");
        x.signal(0, 50);
        x.signal(2, 50);
        Check.due("none is sure", 0, () -> x.ticks(1));
        Check.due("it waits", 1, () -> x.act(3, 0));
        return x;
    }

    private static void sureZoneOfARow() {
        AlarmMatrix first = rowOfTwo();
        first.signal(1, 50);
        Check.due("the first zone is sure", 1, () -> first.ticks(1));
        AlarmMatrix other = rowOfTwo();
        other.signal(3, 50);
        Check.due("the other zone is sure", 1, () -> other.ticks(1));
        AlarmMatrix both = rowOfTwo();
        both.signal(1, 50);
        both.signal(3, 50);
        Check.due("both are sure: done once", 1, () -> both.ticks(1));
        AlarmMatrix none = rowOfTwo();
        Check.due("none is sure", 0, () -> none.ticks(4));
        Check.due("the delay is over", 1, () -> none.ticks(1));
        AlarmMatrix single = read("act 3 kind 0 rank 0 delay 600;when 0 does 3;");
        single.signal(0, 50);
        single.signal(1, 50);
        Check.due("sure in the tick that calls it", 1, () -> single.ticks(1));
    }

    private static void sureZoneOfARowNotMet() {
        AlarmMatrix x = Sample.read(6, "zone 0 needs 2 of 0 1;zone 1 needs 1 of 2 3;"
            + "act 0 kind 0 rank 0 delay 9;when 0 does 0;when 1 does 0;");
        x.signal(0, 50);
        x.fault(1, true);
        x.signal(2, 50);
        Check.due("not on", 0, () -> x.zone(0, 0));
        Check.due("but sure", 1, () -> x.zone(0, 1));
        Check.due("it counts for nothing", 0, () -> x.ticks(9));
        Check.due("the delay does", 1, () -> x.ticks(1));
        AlarmMatrix y = Sample.read(6, "zone 0 needs 1 of 0 1;zone 1 needs 1 of 2 3;zone 2 needs 1 of 4 5;"
            + "act 0 kind 0 rank 0 delay 9;when 1&2 does 0;when 0 does 0;");
        y.signal(2, 50);
        y.signal(3, 50);
        y.signal(0, 50);
        Check.due("sure, on, but the row's other zone is not", 0, () -> y.ticks(9));
        Check.due("the delay is over", 1, () -> y.ticks(1));
    }

    private static void sureZoneOfAnotherAct() {
        AlarmMatrix x = read("act 0 kind 0 rank 0 delay 9;act 1 kind 0 rank 0 delay 9;when 0 does 0;when 1 does 1;");
        x.signal(0, 50);
        x.signal(2, 50);
        x.signal(3, 50);
        Check.due("the other act alone", 1, () -> x.ticks(9));
        Check.due("it is 1", 1, () -> x.event(0, 1));
        Check.due("this one by its delay", 1, () -> x.ticks(1));
    }

    private static void doneOnce() {
        AlarmMatrix x = read("act 7 kind 0 rank 0 delay 0;when 0 does 7;when 1 does 7;");
        x.signal(0, 50);
        x.signal(2, 50);
        Check.due("done, though two rows call it", 1, () -> x.ticks(1));
        Check.due("its state", 2, () -> x.act(7, 0));
        Check.due("event: TIME", 1, () -> x.event(0, 0));
        Check.due("event: act", 7, () -> x.event(0, 1));
        Check.due("event: done", 1, () -> x.event(0, 2));
        Check.due("no event while it is called", 0, () -> x.ticks(200));
        x.signal(0, 0);
        Check.due("one row is enough", 0, () -> x.ticks(1));
    }

    private static void restsAgain() {
        AlarmMatrix x = read("act 7 kind 0 rank 0 delay 0;when 0 does 7;");
        x.signal(0, 50);
        x.ticks(1);
        x.signal(0, 49);
        Check.due("done till the tick", 2, () -> x.act(7, 0));
        Check.due("rests", 1, () -> x.ticks(1));
        Check.due("its state", 0, () -> x.act(7, 0));
        Check.due("event: TIME", 2, () -> x.event(0, 0));
        Check.due("event: act", 7, () -> x.event(0, 1));
        Check.due("event: rest", 0, () -> x.event(0, 2));
        Check.due("no event at rest", 0, () -> x.ticks(200));
        x.signal(0, 50);
        Check.due("done anew", 1, () -> x.ticks(1));
    }

    private static void latches() {
        AlarmMatrix x = read("act 3 kind 0 rank 0 delay 0;act 4 kind 0 rank 0 delay 0;"
            + "when 0 does 3;when 0 does 4;hold 3;");
        x.signal(0, 50);
        Check.due("both done", 2, () -> x.ticks(1));
        x.signal(0, 0);
        Check.due("one rests", 1, () -> x.ticks(200));
        Check.due("it is 4", 4, () -> x.event(0, 1));
        Check.due("3 stays done", 2, () -> x.act(3, 0));
        x.signal(0, 50);
        Check.due("called again, it is done already", 1, () -> x.ticks(1));
        Check.due("4 is done anew", 4, () -> x.event(0, 1));
    }

    private static void goByRank() {
        AlarmMatrix x = read("act 9 kind 0 rank 5 delay 0;act 2 kind 0 rank 5 delay 0;act 7 kind 0 rank 99 delay 0;"
            + "act 0 kind 0 rank 0 delay 0;when 0 does 0;when 0 does 9;when 0 does 2;when 0 does 7;");
        int[] order = {7, 2, 9, 0};
        x.signal(0, 50);
        Check.due("all done", 4, () -> x.ticks(1));
        orderIs("done", x, order);
        x.signal(0, 0);
        Check.due("all rest", 4, () -> x.ticks(1));
        orderIs("rests", x, order);
    }

    private static void orderIs(String what, AlarmMatrix x, int... acts) {
        for (int k = 0; k < acts.length; k++) {
            int latest = acts.length - 1 - k;
            Check.due(what + ", number " + k, acts[k], () -> x.event(latest, 1));
        }
    }
}
