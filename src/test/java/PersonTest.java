/** Promises 14 and 15: person and reset. */
final class PersonTest {
    private static final int LOOK = 0;
    private static final int CONFIRM = 1;

    public static void main(String[] args) {
        Check.sentence("Promise 14", "looks (0): how many acts wait anew by it", PersonTest::lookAnswersHowMany);
        Check.sentence("Promise 14", "begin to wait anew (from this TIME)", PersonTest::lookFromThisTime);
        Check.sentence("Promise 14", "but once for each time that an act waits", PersonTest::lookOnceForEachTime);
        Check.sentence("Promise 14", "a look at what does not wait", PersonTest::lookAtWhatDoesNotWait);
        Check.sentence("Promise 14", "confirms (1): how many that were not", PersonTest::confirmAnswersHowMany);
        Check.sentence("Promise 14", "done at the next tick", PersonTest::confirmedIsDoneAtTheNextTick);
        Check.sentence("Promise 14", "if they are called still", PersonTest::confirmedAndCalledNoMore);
        Check.sentence("Promise 14", "confirmed, and looked at behind it", PersonTest::confirmedThenLooked);
        Check.sentence("Promise 14", "all acts that wait, twenty of them", PersonTest::twentyWait);
        Check.sentence("Promise 14", "illegal argument", PersonTest::personOutOfBounds);

        Check.sentence("Promise 15", "all latched acts that are not called now rest: how many",
            PersonTest::resetAnswersHowMany);
        Check.sentence("Promise 15", "all latched acts, twenty of them", PersonTest::twentyAreReset);
        Check.sentence("Promise 15", "not called now, whatever the last tick was", PersonTest::resetAsItIsNow);
        Check.sentence("Promise 15", "called ones stay", PersonTest::resetLeavesCalledOnes);
        Check.sentence("Promise 15", "those that do not latch, wait or rest stay", PersonTest::resetLeavesOthers);
        Check.sentence("Promise 15", "events of this TIME", PersonTest::resetIsAnEventOfThisTime);
        Check.sentence("Promise 15", "by their rank", PersonTest::resetGoesByRank);
        Check.sentence("Promise 15", "nothing to reset", PersonTest::resetOfNothing);
        Check.end();
    }

    private static AlarmMatrix read(String more) {
        return Sample.read(4, Sample.TWO_ZONES + more);
    }

    private static AlarmMatrix threeActs() {
        return read("act 3 kind 0 rank 0 delay 5;act 4 kind 0 rank 0 delay 9;act 5 kind 0 rank 0 delay 0;"
            + "when 0 does 3;when 1 does 4;when 0 does 5;");
    }

    private static void lookAnswersHowMany() {
        AlarmMatrix x = threeActs();
        Check.due("none waits", 0, () -> x.person(LOOK));
        x.signal(0, 50);
        x.ticks(1);
        Check.due("one waits, one is done, one rests", 1, () -> x.person(LOOK));
        x.signal(2, 50);
        x.ticks(1);
        Check.due("two wait, one was looked at", 1, () -> x.person(LOOK));
        AlarmMatrix y = threeActs();
        y.signal(0, 50);
        y.signal(2, 50);
        y.ticks(1);
        Check.due("two wait", 2, () -> y.person(LOOK));
    }

    private static void lookFromThisTime() {
        AlarmMatrix x = threeActs();
        x.signal(0, 50);
        x.ticks(5);
        Check.due("since", 1, () -> x.act(3, 1));
        x.person(LOOK);
        Check.due("since now", 5, () -> x.act(3, 1));
        Check.due("it waits", 1, () -> x.act(3, 0));
        Check.due("till its delay is over from here", 0, () -> x.ticks(4));
        Check.due("done", 1, () -> x.ticks(1));
        Check.due("at 5 and 5", 10, () -> x.event(0, 0));
    }

    private static void lookOnceForEachTime() {
        AlarmMatrix x = threeActs();
        x.signal(0, 50);
        x.ticks(1);
        Check.due("even in the second in which it began", 1, () -> x.person(LOOK));
        Check.due("not twice in a second", 0, () -> x.person(LOOK));
        x.ticks(2);
        Check.due("nor later", 0, () -> x.person(LOOK));
        Check.due("since when it was looked at", 1, () -> x.act(3, 1));
        Check.due("done", 1, () -> x.ticks(3));
        x.signal(0, 0);
        x.ticks(1);
        x.signal(0, 50);
        x.ticks(2);
        Check.due("it waits a second time", 1, () -> x.person(LOOK));
        Check.due("since now", 9, () -> x.act(3, 1));
        x.signal(0, 0);
        x.ticks(1);
        x.signal(0, 50);
        x.ticks(2);
        Check.due("a third time, though it was not done", 1, () -> x.person(LOOK));
    }

    private static void lookAtWhatDoesNotWait() {
        AlarmMatrix x = threeActs();
        x.signal(0, 50);
        x.ticks(6);
        Check.due("done", 2, () -> x.act(3, 0));
        Check.due("none waits", 0, () -> x.person(LOOK));
        Check.due("done still", 2, () -> x.act(3, 0));
        Check.none("it does not wait", () -> x.act(3, 1));
        Check.due("nothing happens by it", 0, () -> x.ticks(20));
        Refused.changesNothing("a look at nothing", () -> new AlarmMatrix(6), y -> y.person(LOOK));
        Refused.changesNothing("a confirmation of nothing", () -> new AlarmMatrix(6), y -> y.person(CONFIRM));
    }

    private static AlarmMatrix twoActs() {
        return read("act 3 kind 0 rank 0 delay 50;act 4 kind 0 rank 9 delay 50;when 0 does 3;when 1 does 4;hold 4;");
    }

    private static void confirmAnswersHowMany() {
        AlarmMatrix x = twoActs();
        Check.due("none waits", 0, () -> x.person(CONFIRM));
        x.signal(0, 50);
        x.ticks(1);
        Check.due("one waits", 1, () -> x.person(CONFIRM));
        Check.due("it was confirmed", 0, () -> x.person(CONFIRM));
        x.signal(2, 50);
        x.ticks(1);
        Check.due("one is done, another waits", 1, () -> x.person(CONFIRM));
        AlarmMatrix y = twoActs();
        y.signal(0, 50);
        y.signal(2, 50);
        y.ticks(1);
        Check.due("two wait", 2, () -> y.person(CONFIRM));
        Check.due("both were confirmed", 0, () -> y.person(CONFIRM));
    }

    private static void confirmedIsDoneAtTheNextTick() {
        AlarmMatrix x = twoActs();
        x.signal(0, 50);
        x.signal(2, 50);
        x.ticks(3);
        x.person(CONFIRM);
        Check.due("it waits till then", 1, () -> x.act(3, 0));
        Check.due("since as before", 1, () -> x.act(3, 1));
        Check.due("both are done", 2, () -> x.ticks(1));
        Check.due("at 4", 4, () -> x.event(1, 0));
        Check.due("done", 2, () -> x.act(3, 0));
    }

    private static void confirmedAndCalledNoMore() {
        AlarmMatrix x = twoActs();
        x.signal(0, 50);
        x.signal(2, 50);
        x.ticks(1);
        x.person(CONFIRM);
        x.signal(0, 0);
        Check.due("the one that is called still", 1, () -> x.ticks(1));
        Check.due("it is 4", 4, () -> x.event(0, 1));
        Check.due("the other rests", 0, () -> x.act(3, 0));
        x.signal(0, 50);
        Check.due("its confirmation is gone", 0, () -> x.ticks(2));
        Check.due("it waits", 1, () -> x.act(3, 0));
        Check.due("it can be confirmed anew", 1, () -> x.person(CONFIRM));
        Check.due("done", 1, () -> x.ticks(1));
    }

    private static void confirmedThenLooked() {
        AlarmMatrix x = twoActs();
        x.signal(0, 50);
        x.ticks(2);
        Check.due("confirmed", 1, () -> x.person(CONFIRM));
        Check.due("looked at", 1, () -> x.person(LOOK));
        Check.due("confirmed it stays", 0, () -> x.person(CONFIRM));
        Check.due("done at the next tick", 1, () -> x.ticks(1));
        AlarmMatrix y = twoActs();
        y.signal(0, 50);
        y.ticks(2);
        Check.due("looked at first", 1, () -> y.person(LOOK));
        Check.due("confirmed behind it", 1, () -> y.person(CONFIRM));
        Check.due("done, too", 1, () -> y.ticks(1));
    }

    private static void twentyWait() {
        AlarmMatrix x = Sample.twentyActs(9, false);
        x.signal(0, 50);
        x.ticks(5);
        Check.due("looked at", 20, () -> x.person(LOOK));
        Check.due("looked at again", 0, () -> x.person(LOOK));
        Check.due("the first", 5, () -> x.act(0, 1));
        Check.due("the last", 5, () -> x.act(19, 1));
        Check.due("confirmed", 20, () -> x.person(CONFIRM));
        Check.due("confirmed again", 0, () -> x.person(CONFIRM));
        Check.due("done", 20, () -> x.ticks(1));
    }

    private static void personOutOfBounds() {
        int[] others = {Integer.MIN_VALUE, -1, 2, Integer.MAX_VALUE};
        Refused.arguments("person(%d)", others, (x, n) -> x.person(n));
        Check.due("0", 1, () -> Sample.busy().person(LOOK));
        Check.due("1", 2, () -> Sample.busy().person(CONFIRM));
    }

    private static AlarmMatrix latched() {
        AlarmMatrix x = read("act 9 kind 0 rank 5 delay 0;act 2 kind 0 rank 5 delay 0;act 7 kind 0 rank 50 delay 0;"
            + "when 0 does 9;when 0 does 2;when 1 does 7;hold 2;hold 9;hold 7;");
        x.signal(0, 50);
        x.signal(2, 50);
        x.ticks(1);
        return x;
    }

    private static void resetAnswersHowMany() {
        AlarmMatrix x = latched();
        x.signal(0, 0);
        x.ticks(1);
        Check.due("two of three", 2, () -> x.reset());
        Check.due("their state", 0, () -> x.act(9, 0));
        Check.due("the third is called", 2, () -> x.act(7, 0));
        Check.due("no more", 0, () -> x.reset());
        x.signal(2, 0);
        Check.due("the third", 1, () -> x.reset());
        x.signal(0, 50);
        Check.due("done anew", 2, () -> x.ticks(1));
    }

    private static void twentyAreReset() {
        AlarmMatrix x = Sample.twentyActs(0, true);
        x.signal(0, 50);
        Check.due("done", 20, () -> x.ticks(1));
        Check.due("called", 0, () -> x.reset());
        x.signal(0, 0);
        Check.due("all", 20, () -> x.reset());
        Check.due("no more", 0, () -> x.reset());
        Check.due("the first goes first", 0, () -> x.event(19, 1));
        Check.due("the last goes last", 19, () -> x.event(0, 1));
    }

    private static void resetAsItIsNow() {
        AlarmMatrix x = latched();
        x.signal(0, 49);
        x.fault(2, true);
        Check.due("called in the last tick, not now", 3, () -> x.reset());
        AlarmMatrix y = latched();
        y.signal(0, 0);
        y.signal(2, 0);
        y.ticks(5);
        y.signal(1, 50);
        y.signal(3, 50);
        Check.due("not called in the last tick, but now", 0, () -> y.reset());
        Check.due("done still", 2, () -> y.act(7, 0));
        y.disable(3, 7);
        Check.due("disabled now", 1, () -> y.reset());
        Check.due("its state", 0, () -> y.act(7, 0));
    }

    private static void resetLeavesCalledOnes() {
        AlarmMatrix x = latched();
        Check.due("all are called", 0, () -> x.reset());
        Check.due("done", 2, () -> x.act(9, 0));
        Check.badArgument("no event by it", () -> x.event(3, 0));
        Refused.changesNothing("reset() of called ones", PersonTest::busyAndCalled, y -> y.reset());
    }

    private static AlarmMatrix busyAndCalled() {
        AlarmMatrix x = Sample.busy();
        x.signal(2, 50);
        return x;
    }

    private static void resetLeavesOthers() {
        AlarmMatrix x = read("act 3 kind 0 rank 0 delay 0;act 4 kind 0 rank 0 delay 50;act 5 kind 0 rank 0 delay 0;"
            + "when 0 does 3;when 0 does 4;when 1 does 5;hold 4;hold 5;");
        x.signal(0, 50);
        x.ticks(1);
        x.signal(0, 0);
        Check.due("none", 0, () -> x.reset());
        Check.due("done, but does not latch", 2, () -> x.act(3, 0));
        Check.due("latches, but waits", 1, () -> x.act(4, 0));
        Check.due("latches, but rests", 0, () -> x.act(5, 0));
        Check.badArgument("no event by it", () -> x.event(1, 0));
    }

    private static void resetIsAnEventOfThisTime() {
        AlarmMatrix x = latched();
        x.ticks(4);
        x.signal(2, 0);
        x.reset();
        Check.due("TIME", 5, () -> x.event(0, 0));
        Check.due("act", 7, () -> x.event(0, 1));
        Check.due("rest", 0, () -> x.event(0, 2));
        Check.due("the TIME stays", 5, () -> x.time());
        Check.due("the tick has no event of it", 0, () -> x.ticks(1));
    }

    private static void resetGoesByRank() {
        AlarmMatrix x = latched();
        x.signal(0, 0);
        x.signal(2, 0);
        Check.due("all", 3, () -> x.reset());
        Check.due("the greatest rank", 7, () -> x.event(2, 1));
        Check.due("of alike ones the lesser number", 2, () -> x.event(1, 1));
        Check.due("the other", 9, () -> x.event(0, 1));
    }

    private static void resetOfNothing() {
        Refused.changesNothing("reset() of a new object", () -> new AlarmMatrix(6), x -> x.reset());
        AlarmMatrix x = Sample.busy();
        Check.due("one", 1, () -> x.reset());
        Check.due("none", 0, () -> x.reset());
        x.read();
        Check.due("none behind a read", 0, () -> x.reset());
    }
}
