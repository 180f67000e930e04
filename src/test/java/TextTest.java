/** Promises 2 to 4: unit, say and cutText. */
final class TextTest {
    public static void main(String[] args) {
        unitTakesCharacters();
        sayWritesSentences();
        sayRefusesNumbers();
        fullText();
        cutTextTakesTheEnd();
        whatWasCutIsNotRead();
        Check.end();
    }

    private static void unitTakesCharacters() {
        AlarmMatrix x = new AlarmMatrix(1);
        Check.due("least character", 1, () -> x.unit(0));
        Check.due("greatest character", 2, () -> x.unit(127));
        Check.badArgument("-1", () -> x.unit(-1));
        Check.badArgument("128", () -> x.unit(128));
        Check.badArgument("256 + 97", () -> x.unit(353));
        Check.badArgument("65536 + 97", () -> x.unit(65633));
        Check.due("refused ones are not there", 2, () -> x.cutText(0));
    }

    private static void said(String want, int which, int a, int b, int c, int d) {
        AlarmMatrix x = new AlarmMatrix(200);
        Check.due("length of " + want, want.length(), () -> x.say(which, a, b, c, d));
    }

    private static void sayWritesSentences() {
        said("zone 1 needs 2 of 3 ; ", 0, 1, 2, 3, 1);
        said("zone 10 needs 11 of 8 9 10 11 ; ", 0, 10, 11, 8, 4);
        said("zone 0 needs 0 of 9998 9999 10000 ; ", 0, 0, 0, 9998, 3);
        said("zone 9999 needs 9999 of 9999 10000 10001 10002 10003 10004 10005 10006 10007 10008 10009 10010 ; ",
            0, 9999, 9999, 9999, 12);
        said("act 1 kind 22 rank 333 delay 4444 ; ", 1, 1, 22, 333, 4444);
        said("act 9999 kind 0 rank 0 delay 9999 ; ", 1, 9999, 0, 0, 9999);
        said("when 100 does 1000 ; ", 2, 100, 1000, 0, 0);
        said("when 1 & 10 does 100 ; ", 3, 1, 10, 100, 0);
        said("hold 9999 ; ", 4, 9999, 0, 0, 0);
        whatWasSaidIsRead();
        saidBehindAWord();
    }

    private static void whatWasSaidIsRead() {
        AlarmMatrix x = new AlarmMatrix(200);
        x.say(0, 19, 2, 98, 12);
        x.say(0, 7, 1, 3, 1);
        x.say(1, 12, 5, 99, 600);
        x.say(1, 3, 4, 0, 10);
        x.say(2, 7, 3, 0, 0);
        x.say(3, 19, 7, 12, 0);
        x.say(4, 12, 0, 0, 0);
        Check.due("rows", 2, () -> x.read());
        Check.due("needs", 2, () -> x.zone(19, 2));
        Check.due("kind", 5, () -> x.act(12, 2));
        Check.due("rank", 99, () -> x.act(12, 3));
        Check.due("delay", 600, () -> x.act(12, 4));
        Check.due("latches", 1, () -> x.act(12, 5));
        Check.due("other delay", 10, () -> x.act(3, 4));
        Check.due("row of one", 7, () -> x.row(0, 0));
        Check.due("row of one, act", 3, () -> x.row(0, 2));
        Check.due("row of two, first", 19, () -> x.row(1, 0));
        Check.due("row of two, other", 7, () -> x.row(1, 1));
        Check.due("row of two, act", 12, () -> x.row(1, 2));
        x.signal(97, 100);
        x.signal(98, 100);
        x.signal(109, 100);
        x.signal(110, 100);
        Check.due("98 .. 109 are the zone's points", 2, () -> x.zone(19, 3));
    }

    private static void saidBehindAWord() {
        AlarmMatrix x = new AlarmMatrix(5);
        x.unit('x');
        x.say(0, 1, 1, 1, 1);
        Check.due("no blank before it: xzone", -1, () -> x.read());
        x.cutText(23);
        x.say(0, 1, 1, 1, 1);
        x.unit('x');
        Check.due("a blank behind it", -8, () -> x.read());
    }

    private static void refused(int which, int a, int b, int c, int d) {
        AlarmMatrix x = new AlarmMatrix(200);
        String what = "say(" + which + ", " + a + ", " + b + ", " + c + ", " + d + ")";
        Check.badArgument(what, () -> x.say(which, a, b, c, d));
        Check.due("nothing was written by " + what, 0, () -> x.cutText(0));
    }

    private static void sayRefusesNumbers() {
        int[] outside = {Integer.MIN_VALUE, -1, 10000, Integer.MAX_VALUE};
        int[] saidNumbers = {3, 4, 2, 3, 1};
        for (int which = 0; which < saidNumbers.length; which++) {
            for (int place = 0; place < 4; place++) {
                for (int number : outside) {
                    int[] n = {1, 1, 1, 1};
                    n[place] = number;
                    boolean counts = place < saidNumbers[which] || which == 0;
                    if (counts) {
                        refused(which, n[0], n[1], n[2], n[3]);
                    } else {
                        AlarmMatrix x = new AlarmMatrix(1);
                        int w = which;
                        int want = new int[] {22, 32, 16, 20, 9}[which];
                        Check.due("a number that is not said", want, () -> x.say(w, n[0], n[1], n[2], n[3]));
                    }
                }
            }
        }
        refused(0, 1, 1, 1, 0);
        refused(0, 1, 1, 1, 13);
        refused(-1, 1, 1, 1, 1);
        refused(5, 1, 1, 1, 1);
        refused(Integer.MAX_VALUE, 1, 1, 1, 1);
    }

    private static void fullText() {
        AlarmMatrix x = new AlarmMatrix(1);
        // 91 characters a sentence: 21 of them are 1911.
        for (int k = 0; k < 21; k++) {
            x.say(0, 2, 1, 9999, 12);
        }
        Check.due("1911", 1911, () -> x.cutText(0));
        Check.badState("2002 would be too many", () -> x.say(0, 2, 1, 9999, 12));
        Check.due("still 1911", 1911, () -> x.cutText(0));
        Check.type(x, "a".repeat(88));
        Check.due("the last one that fits", 2000, () -> x.unit('a'));
        Check.badState("one more", () -> x.unit('a'));
        Check.badState("a short sentence", () -> x.say(4, 0, 0, 0, 0));
        Check.badArgument("argument before state", () -> x.unit(128));
        Check.badArgument("argument before state in say", () -> x.say(4, -1, 0, 0, 0));
        Check.badArgument("more than there are", () -> x.cutText(2001));
        Check.due("9 go", 1991, () -> x.cutText(9));
        Check.due("a sentence that just fits", 2000, () -> x.say(4, 0, 0, 0, 0));
        Check.due("8 go", 1992, () -> x.cutText(8));
        Check.badState("one too many", () -> x.say(4, 0, 0, 0, 0));
        Check.due("nothing of it was written", 1992, () -> x.cutText(0));
        Check.due("all go", 0, () -> x.cutText(1992));
        Check.due("written anew", 9, () -> x.say(4, 0, 0, 0, 0));
        Check.due("read anew", -2, () -> x.read());
    }

    private static void whatWasCutIsNotRead() {
        AlarmMatrix x = new AlarmMatrix(9);
        Check.type(x, "zone 199");
        Check.due("a number out of its bounds", -2, () -> x.read());
        x.cutText(1);
        Check.due("a shorter number", -3, () -> x.read());
        Check.type(x, " needs 1 of 0;");
        Check.due("a sentence", 0, () -> x.read());
        x.cutText(1);
        Check.due("its end is gone", -7, () -> x.read());
    }

    private static void cutTextTakesTheEnd() {
        AlarmMatrix x = new AlarmMatrix(9);
        Check.type(x, "zone 0 needs 1 of 1 2;zone");
        Check.badArgument("below 0", () -> x.cutText(-1));
        Check.badArgument("least", () -> x.cutText(Integer.MIN_VALUE));
        Check.badArgument("more than there are", () -> x.cutText(27));
        Check.badArgument("greatest", () -> x.cutText(Integer.MAX_VALUE));
        Check.due("text is whole still", -10, () -> x.read());
        Check.due("none go", 26, () -> x.cutText(0));
        Check.due("the last word goes", 22, () -> x.cutText(4));
        Check.due("the rest is right", 0, () -> x.read());
        Check.due("nothing is read by cutting", 1, () -> x.zone(0, 2));
        Check.due("all go", 0, () -> x.cutText(22));
        Check.due("what was read stays", 1, () -> x.zone(0, 2));
        Check.due("the empty text", 0, () -> x.read());
        Check.badArgument("nothing told", () -> x.zone(0, 2));
    }
}
