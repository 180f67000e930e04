/** Promises 2 to 4: unit, say and cutText. */
final class TextTest {
    private static final int[] TOO_SMALL_OR_LARGE = {Integer.MIN_VALUE, -1, 10000, Integer.MAX_VALUE};
    // Of each kind of sentence: how many of its numbers are said as they are, and how long the shortest one is.
    private static final int[] SAID_NUMBERS = {3, 4, 2, 3, 1};
    private static final int[] SHORTEST = {22, 30, 16, 20, 9};

    public static void main(String[] args) {
        Check.sentence("Promise 2", "a character comes behind the text: how many it has", TextTest::unitComesBehind);
        Check.sentence("Promise 2", "illegal argument: it is not 0 .. 127", TextTest::unitIsNot0To127);
        Check.sentence("Promise 2", "illegal state: it has 2000", TextTest::unitWhenItHas2000);
        Check.sentence("Promise 2", "of several exceptions the one named first", TextTest::unitArgumentBeforeState);

        Check.sentence("Promise 3", "which = 0 zone a needs b of c, c + 1 .. (d of them)", TextTest::sayZone);
        Check.sentence("Promise 3", "1 act a kind b rank c delay d", TextTest::sayAct);
        Check.sentence("Promise 3", "2 when a does b; 3 when a & b does c", TextTest::sayRow);
        Check.sentence("Promise 3", "4 hold a", TextTest::sayHold);
        Check.sentence("Promise 3", "one blank between words and one behind it", TextTest::sayBlanks);
        Check.sentence("Promise 3", "illegal argument: which is none of these", TextTest::sayNoneOfThese);
        Check.sentence("Promise 3", "a number that is said is not 0 .. 9999", TextTest::sayNumbersOutOfBounds);
        Check.sentence("Promise 3", "a number that is said is 0 or 9999", TextTest::sayLeastAndGreatest);
        Check.sentence("Promise 3", "a number that is not said may be any", TextTest::sayNumbersThatAreNotSaid);
        Check.sentence("Promise 3", "(0) d not 1 .. 12", TextTest::sayPointsOutOfBounds);
        Check.sentence("Promise 3", "those behind c may be above", TextTest::sayPointsAbove9999);
        Check.sentence("Promise 3", "illegal state: it would have more than 2000", TextTest::sayMoreThan2000);
        Check.sentence("Promise 3", "a text of 2000 is no more than that", TextTest::sayUpTo2000);
        Check.sentence("Promise 3", "of several exceptions the one named first", TextTest::sayArgumentBeforeState);

        Check.sentence("Promise 4", "the last n characters go: how many it has", TextTest::cutTextTakesTheEnd);
        Check.sentence("Promise 4", "n is 0, or as many as there are", TextTest::cutTextNoneAndAll);
        Check.sentence("Promise 4", "illegal argument: n is below 0", TextTest::cutTextBelow0);
        Check.sentence("Promise 4", "illegal argument: n is more than there are", TextTest::cutTextMoreThanThereAre);
        Check.sentence("Promise 4", "what went is not read", TextTest::whatWentIsNotRead);
        Check.sentence("Promise 4", "where characters went there is room", TextTest::cutTextMakesRoom);
        Check.end();
    }

    private static void unitComesBehind() {
        AlarmMatrix x = new AlarmMatrix(1);
        String text = "zone 0 needs 1 of 0;";
        for (int k = 0; k < text.length(); k++) {
            int c = text.charAt(k);
            Check.due("character " + k, k + 1, () -> x.unit(c));
        }
        Check.due("they are read in their order", 0, () -> x.read());
        Check.due("needs", 1, () -> x.zone(0, 2));
    }

    private static void unitIsNot0To127() {
        AlarmMatrix x = new AlarmMatrix(1);
        for (int c = 0; c <= 127; c++) {
            int character = c;
            Check.due("character " + c, c + 1, () -> x.unit(character));
        }
        int[] others = {Integer.MIN_VALUE, -128, -1, 128, 255, 256 + 'a', 65536 + 'a', Integer.MAX_VALUE};
        Refused.arguments("unit(%d)", others, (y, n) -> y.unit(n));
    }

    private static void unitWhenItHas2000() {
        AlarmMatrix x = Sample.textOf(1998);
        Check.due("the last but one", 1999, () -> x.unit('a'));
        Check.due("the last one", 2000, () -> x.unit('a'));
        Check.badState("one more", () -> x.unit('a'));
        Refused.state("a blank behind 2000", () -> Sample.textOf(2000), y -> y.unit(' '));
        Refused.state("the least character behind 2000", () -> Sample.textOf(2000), y -> y.unit(0));
        Refused.state("the greatest character behind 2000", () -> Sample.textOf(2000), y -> y.unit(127));
    }

    private static void unitArgumentBeforeState() {
        Refused.argument("unit(128), full", () -> Sample.textOf(2000), x -> x.unit(128));
        Refused.argument("unit(-1), full", () -> Sample.textOf(2000), x -> x.unit(-1));
    }

    private static String named(int which, int... n) {
        return "say(" + which + ", " + n[0] + ", " + n[1] + ", " + n[2] + ", " + n[3] + ")";
    }

    private static void said(String want, int which, int a, int b, int c, int d) {
        AlarmMatrix x = new AlarmMatrix(200);
        Check.due("length of " + want, want.length(), () -> x.say(which, a, b, c, d));
        Check.due("twice " + want, 2 * want.length(), () -> x.say(which, a, b, c, d));
    }

    private static void sayZone() {
        said("zone 1 needs 2 of 3 ; ", 0, 1, 2, 3, 1);
        said("zone 10 needs 11 of 8 9 10 11 ; ", 0, 10, 11, 8, 4);
        said("zone 100 needs 1000 of 98 99 100 101 102 103 104 105 106 107 108 109 ; ", 0, 100, 1000, 98, 12);
        AlarmMatrix x = new AlarmMatrix(200);
        x.say(0, 19, 2, 98, 12);
        Check.due("read", 0, () -> x.read());
        Check.due("needs", 2, () -> x.zone(19, 2));
        x.signal(97, 100);
        x.signal(110, 100);
        Check.due("97 and 110 are none of its points", 0, () -> x.zone(19, 3));
        for (int point = 98; point <= 109; point++) {
            x.signal(point, 100);
        }
        Check.due("98 .. 109 are", 12, () -> x.zone(19, 3));
    }

    private static void sayAct() {
        said("act 1 kind 22 rank 333 delay 4444 ; ", 1, 1, 22, 333, 4444);
        said("act 1000 kind 100 rank 10 delay 0 ; ", 1, 1000, 100, 10, 0);
        AlarmMatrix x = new AlarmMatrix(1);
        x.say(1, 12, 5, 98, 543);
        Check.due("read", 0, () -> x.read());
        Check.due("kind", 5, () -> x.act(12, 2));
        Check.due("rank", 98, () -> x.act(12, 3));
        Check.due("delay", 543, () -> x.act(12, 4));
        Check.due("latches", 0, () -> x.act(12, 5));
    }

    private static void sayRow() {
        said("when 100 does 1000 ; ", 2, 100, 1000, 0, 0);
        said("when 1 & 10 does 100 ; ", 3, 1, 10, 100, 0);
        AlarmMatrix x = new AlarmMatrix(9);
        x.say(0, 7, 1, 3, 1);
        x.say(0, 19, 1, 4, 2);
        x.say(1, 3, 0, 0, 0);
        x.say(1, 12, 0, 0, 0);
        x.say(2, 7, 3, 0, 0);
        x.say(3, 19, 7, 12, 0);
        Check.due("read", 2, () -> x.read());
        Check.due("row of one, zone", 7, () -> x.row(0, 0));
        Check.none("row of one, other zone", () -> x.row(0, 1));
        Check.due("row of one, act", 3, () -> x.row(0, 2));
        Check.due("row of two, zone", 19, () -> x.row(1, 0));
        Check.due("row of two, other zone", 7, () -> x.row(1, 1));
        Check.due("row of two, act", 12, () -> x.row(1, 2));
    }

    private static void sayHold() {
        said("hold 0 ; ", 4, 0, 0, 0, 0);
        said("hold 1234 ; ", 4, 1234, 0, 0, 0);
        AlarmMatrix x = new AlarmMatrix(9);
        x.say(1, 3, 0, 0, 0);
        x.say(4, 3, 0, 0, 0);
        Check.due("read", 0, () -> x.read());
        Check.due("latches", 1, () -> x.act(3, 5));
    }

    private static void sayBlanks() {
        AlarmMatrix x = Sample.typed(5, "x");
        x.say(0, 1, 1, 1, 1);
        Check.due("none before it: xzone is a word", -1, () -> x.read());
        x.cutText(23);
        x.say(0, 1, 1, 1, 1);
        x.unit('x');
        Check.due("one behind it: x is a word", -1 - 7, () -> x.read());
        x.cutText(3);
        Check.due("behind the ; there is but that one", -1 - 6, () -> x.read());
    }

    private static void sayNoneOfThese() {
        int[] others = {Integer.MIN_VALUE, -1, 5, 6, 256, Integer.MAX_VALUE};
        Refused.arguments("say(%d, 1, 1, 1, 1)", others, (x, n) -> x.say(n, 1, 1, 1, 1));
    }

    private static void sayNumbersOutOfBounds() {
        for (int k = 0; k < SAID_NUMBERS.length; k++) {
            int which = k;
            for (int place = 0; place < SAID_NUMBERS[which]; place++) {
                for (int number : TOO_SMALL_OR_LARGE) {
                    int[] n = {1, 1, 1, 1};
                    n[place] = number;
                    Refused.argument(named(which, n), Sample::busy, x -> x.say(which, n[0], n[1], n[2], n[3]));
                }
            }
        }
    }

    private static void sayLeastAndGreatest() {
        said("zone 0 needs 0 of 0 ; ", 0, 0, 0, 0, 1);
        said("zone 9999 needs 9999 of 9999 ; ", 0, 9999, 9999, 9999, 1);
        said("act 0 kind 0 rank 0 delay 0 ; ", 1, 0, 0, 0, 0);
        said("act 9999 kind 9999 rank 9999 delay 9999 ; ", 1, 9999, 9999, 9999, 9999);
        said("when 0 does 0 ; ", 2, 0, 0, 0, 0);
        said("when 9999 does 9999 ; ", 2, 9999, 9999, 0, 0);
        said("when 0 & 0 does 0 ; ", 3, 0, 0, 0, 0);
        said("when 9999 & 9999 does 9999 ; ", 3, 9999, 9999, 9999, 0);
        said("hold 0 ; ", 4, 0, 0, 0, 0);
        said("hold 9999 ; ", 4, 9999, 0, 0, 0);
    }

    private static void sayNumbersThatAreNotSaid() {
        for (int number : TOO_SMALL_OR_LARGE) {
            said("when 1 does 2 ; ", 2, 1, 2, number, 0);
            said("when 1 does 2 ; ", 2, 1, 2, 0, number);
            said("when 1 & 2 does 3 ; ", 3, 1, 2, 3, number);
            said("hold 1 ; ", 4, 1, number, 0, 0);
            said("hold 1 ; ", 4, 1, 0, number, 0);
            said("hold 1 ; ", 4, 1, 0, 0, number);
        }
    }

    private static void sayPointsOutOfBounds() {
        said("zone 1 needs 1 of 1 ; ", 0, 1, 1, 1, 1);
        said("zone 1 needs 1 of 1 2 3 4 5 6 7 8 9 10 11 12 ; ", 0, 1, 1, 1, 12);
        int[] others = {Integer.MIN_VALUE, -1, 0, 13, 9999, Integer.MAX_VALUE};
        Refused.arguments("say(0, 1, 1, 1, %d)", others, (x, n) -> x.say(0, 1, 1, 1, n));
    }

    private static void sayPointsAbove9999() {
        said("zone 0 needs 0 of 9998 9999 10000 ; ", 0, 0, 0, 9998, 3);
        said("zone 9999 needs 9999 of 9999 10000 10001 10002 10003 10004 10005 10006 10007 10008 10009 10010 ; ",
            0, 9999, 9999, 9999, 12);
    }

    private static int sayShortest(AlarmMatrix x, int which) {
        return x.say(which, 0, 0, 0, which == 0 ? 1 : 0);
    }

    private static void sayMoreThan2000() {
        for (int k = 0; k < SHORTEST.length; k++) {
            int which = k;
            int oneTooMany = 2001 - SHORTEST[which];
            Refused.state("2001 by kind " + which, () -> Sample.textOf(oneTooMany), x -> sayShortest(x, which));
            Refused.state("a full text, kind " + which, () -> Sample.textOf(2000), x -> sayShortest(x, which));
        }
        Refused.state("2089", () -> Sample.textOf(1998), x -> x.say(0, 2, 1, 9999, 12));
    }

    private static void sayUpTo2000() {
        for (int k = 0; k < SHORTEST.length; k++) {
            int which = k;
            AlarmMatrix x = Sample.textOf(2000 - SHORTEST[which]);
            Check.due("2000 by kind " + which, 2000, () -> sayShortest(x, which));
            Check.badState("full behind kind " + which, () -> x.unit(' '));
        }
    }

    private static void sayArgumentBeforeState() {
        Refused.argument("a number below 0, full", () -> Sample.textOf(2000), x -> x.say(4, -1, 0, 0, 0));
        Refused.argument("a number above 9999, full", () -> Sample.textOf(2000), x -> x.say(1, 0, 0, 0, 10000));
        Refused.argument("no points, full", () -> Sample.textOf(2000), x -> x.say(0, 0, 0, 0, 0));
        Refused.argument("13 points, full", () -> Sample.textOf(2000), x -> x.say(0, 0, 0, 0, 13));
        Refused.argument("no such kind, full", () -> Sample.textOf(2000), x -> x.say(5, 0, 0, 0, 0));
    }

    private static void cutTextTakesTheEnd() {
        AlarmMatrix x = Sample.typed(9, "zone 0 needs 1 of 1 2;zone");
        Check.due("the last word is begun", -1 - 9, () -> x.read());
        Check.due("it goes", 22, () -> x.cutText(4));
        Check.due("the rest is right", 0, () -> x.read());
        Check.due("needs", 1, () -> x.zone(0, 2));
        Check.due("the sentence's end goes", 21, () -> x.cutText(1));
        Check.due("what was read stays", 1, () -> x.zone(0, 2));
        Check.due("the text is not", -1 - 7, () -> x.read());
    }

    private static void cutTextNoneAndAll() {
        Refused.changesNothing("cutText(0)", Sample::busy, x -> x.cutText(0));
        Refused.changesNothing("cutText(0) of none", () -> new AlarmMatrix(6), x -> x.cutText(0));
        AlarmMatrix x = Sample.busy();
        int size = x.cutText(0);
        Check.due("all but one", 1, () -> x.cutText(size - 1));
        Check.due("all", 0, () -> x.cutText(1));
        Check.due("none of none", 0, () -> x.cutText(0));
        Check.due("the empty text", 0, () -> x.read());
        AlarmMatrix full = Sample.textOf(2000);
        Check.due("2000 at once", 0, () -> full.cutText(2000));
    }

    private static void cutTextBelow0() {
        Refused.argument("cutText(-1)", Sample::busy, x -> x.cutText(-1));
        Refused.argument("cutText of the least", Sample::busy, x -> x.cutText(Integer.MIN_VALUE));
        Refused.argument("cutText(-1) of a full text", () -> Sample.textOf(2000), x -> x.cutText(-1));
        Refused.argument("cutText(-1) of none", () -> new AlarmMatrix(6), x -> x.cutText(-1));
    }

    private static void cutTextMoreThanThereAre() {
        int size = Sample.busy().cutText(0);
        Refused.argument("one more", Sample::busy, x -> x.cutText(size + 1));
        Refused.argument("the greatest", Sample::busy, x -> x.cutText(Integer.MAX_VALUE));
        Refused.argument("one of none", () -> new AlarmMatrix(6), x -> x.cutText(1));
        Refused.argument("2001 of 2000", () -> Sample.textOf(2000), x -> x.cutText(2001));
    }

    private static void cutTextMakesRoom() {
        AlarmMatrix x = Sample.textOf(2000);
        Check.due("9 go", 1991, () -> x.cutText(9));
        Check.due("9 come", 2000, () -> x.say(4, 0, 0, 0, 0));
        Check.due("8 go", 1992, () -> x.cutText(8));
        Check.badState("9 are too many", () -> x.say(4, 0, 0, 0, 0));
        Check.due("all go", 0, () -> x.cutText(1992));
        Check.due("written anew", 9, () -> x.say(4, 0, 0, 0, 0));
        Check.due("read anew", -1 - 1, () -> x.read());
    }

    private static void whatWentIsNotRead() {
        String text = "zone 19 needs 1 of 0 12;act 7 kind 5 rank 99 delay 600;when 19 does 7;hold 7;";
        AlarmMatrix x = Sample.typed(20, text);
        for (int size = text.length() - 1; size >= 0; size--) {
            String left = text.substring(0, size);
            int want = Sample.typed(20, left).read();
            x.cutText(1);
            Check.due("left is " + left, want, () -> x.read());
        }
    }
}
