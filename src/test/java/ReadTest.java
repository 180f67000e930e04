/** Promise 5: read. */
final class ReadTest {
    private static final String ZONES = "zone 0 needs 1 of 0;zone 1 needs 2 of 1 2;";
    private static final int ZONES_WORDS = 15;
    private static final String ACTS = "act 0 kind 0 rank 0 delay 0;act 1 kind 5 rank 99 delay 600;";
    private static final int ACTS_WORDS = 18;

    public static void main(String[] args) {
        firstWords();
        words();
        zoneSentences();
        zonePoints();
        actSentences();
        rowSentences();
        holdSentences();
        rowsAreFiftyAtMost();
        textsThatEndWithinASentence();
        readReplaces();
        wrongTextChangesNothing();
        readLetsActsRest();
        Check.end();
    }

    private static void reads(String text, int want) {
        AlarmMatrix x = new AlarmMatrix(15);
        Check.type(x, text);
        Check.due("read of \"" + text + "\"", want, () -> x.read());
    }

    private static void right(String text, int rows) {
        reads(text, rows);
    }

    private static void wrong(String text, int word) {
        reads(text, -1 - word);
    }

    private static void wrongBehind(String told, int words, String text, int word) {
        wrong(told + text, words + word);
    }

    private static void firstWords() {
        right("", 0);
        right(" \n \n\n", 0);
        wrong("x", 0);
        wrong("zon", 0);
        wrong("zones", 0);
        wrong("Zone", 0);
        wrong(";", 0);
        wrong("&", 0);
        wrong("7", 0);
        wrong("needs", 0);
        wrong("zone 0 needs 1 of 0;;", 7);
        wrong("zone 0 needs 1 of 0;does", 7);
    }

    private static void words() {
        right("zone0needs1of0 1;", 0);
        right("\n zone\n0  needs \n 1 of\n\n0\n;\n", 0);
        right("zone 000000 needs 000001 of 00000 000001;", 0);
        wrong("zone 0000000 needs 1 of 0;", 1);
        wrong("zone 0 needs 0000001 of 0;", 3);
        wrong("zone 4294967296 needs 1 of 0;", 1);
        wrong("zone 0 needs 1 of 01 1;", 6);
        wrong("zone\t0 needs 1 of 0;", 1);
        wrong("zone\r\n0 needs 1 of 0;", 1);
        wrong("zone 0 needs 1 of 0" + (char) 0 + ";", 6);
        wrong("zone 0 needs 1 of 0;" + (char) 127, 7);
        wrong("zone -1 needs 1 of 0;", 1);
        wrong("zone 1x needs 1 of 0;", 2);
        wrong("zone 0 need s 1 of 0;", 2);
        wrong("zone 0 needs 1 of 0,1;", 6);
        wrong("zo" + (char) 0 + "ne", 0);
        wrong("zone A0 needs", 1);
        wrong("!zone", 0);
        wrong("zone 0 needs 1 of 0;!", 7);
        wrong("zone 0 needs 1 of 0;zone!!!1", 8);
        wrong("zone {", 1);
        wrong("zone `", 1);
        wrong("zone :", 1);
        wrong("zone /", 1);
    }

    private static void zoneSentences() {
        right("zone 0 needs 1 of 0;zone 19 needs 1 of 14;", 0);
        wrong("zone 20 needs 1 of 0;", 1);
        wrong("zone zone needs 1 of 0;", 1);
        wrong("zone 1 1 of 0;", 2);
        wrong("zone 1 of needs 1 0;", 2);
        wrong("zone 1 needs 0 of 0;", 3);
        wrong("zone 1 needs 13 of 0;", 3);
        wrong("zone 1 needs of 1 0;", 3);
        wrong("zone 1 needs 1 0;", 4);
        wrong("zone 1 needs 1 of;", 5);
        wrong("zone 1 needs 1 of of;", 5);
        wrong("zone 1 needs 1 of 15;", 5);
        wrong("zone 1 needs 1 of 0 15;", 6);
        wrong("zone 1 needs 1 of 0 &;", 6);
        wrong("zone 1 needs 1 of 0 zone 2;", 6);
        wrong("zone 1 needs 1 of 0;zone 1 needs 1 of 0;", 8);
        wrong("zone 1 needs 1 of 0;zone 01 needs 1 of 0;", 8);
        right("zone 1 needs 2 of 0 1;", 0);
        wrong("zone 1 needs 3 of 0 1;", 3);
        wrong("zone 1 needs 3 of 0 1; what", 3);
        wrong("zone 1 needs 3 of 0 15;", 6);
        wrong("zone 1 needs 3 of 0 0;", 6);
        wrong("zone 1 needs 3 of 0 1", 7);
        wrong("zone 1 needs 3 of 0 1 what", 7);
        wrong("zone 0 needs 1 of 0;zone 1 needs 12 of 0;", 10);
    }

    private static void zonePoints() {
        right("zone 1 needs 12 of 0 1 2 3 4 5 6 7 8 9 10 11;", 0);
        wrong("zone 1 needs 12 of 0 1 2 3 4 5 6 7 8 9 10;", 3);
        wrong("zone 1 needs 12 of 0 1 2 3 4 5 6 7 8 9 10 11 12;", 17);
        wrong("zone 1 needs 12 of 0 1 2 3 4 5 6 7 8 9 10 11", 17);
        wrong("zone 1 needs 1 of 0 1 2 3 4 5 6 7 8 9 10 0;", 16);
        wrong("zone 1 needs 1 of 3 4 3 4;", 7);
        right("zone 1 needs 1 of 3 4;zone 2 needs 1 of 4 3;", 0);
        AlarmMatrix one = new AlarmMatrix(1);
        Check.type(one, "zone 1 needs 1 of 0;");
        Check.due("one point", 0, () -> one.read());
        Check.type(one, "zone 2 needs 1 of 1;");
        Check.due("no such point", -13, () -> one.read());
        AlarmMatrix many = new AlarmMatrix(200);
        Check.type(many, "zone 1 needs 1 of 199 200;");
        Check.due("point 200", -7, () -> many.read());
    }

    private static void actSentences() {
        right("act 0 kind 0 rank 0 delay 0;act 19 kind 5 rank 99 delay 600;", 0);
        wrong("act 20 kind 0 rank 0 delay 0;", 1);
        wrong("act kind 0 rank 0 delay 0;", 1);
        wrong("act 0 rank 0 kind 0 delay 0;", 2);
        wrong("act 0 kind 6 rank 0 delay 0;", 3);
        wrong("act 0 kind rank 0 delay 0;", 3);
        wrong("act 0 kind 0 delay 0;", 4);
        wrong("act 0 kind 0 rank 100 delay 0;", 5);
        wrong("act 0 kind 0 rank 0 0;", 6);
        wrong("act 0 kind 0 rank 0 delay 601;", 7);
        wrong("act 0 kind 0 rank 0 delay;", 7);
        wrong("act 0 kind 0 rank 0 delay 0 hold 0;", 8);
        wrong("act 0 kind 0 rank 0 delay 0 0;", 8);
        wrong("act 3 kind 0 rank 0 delay 0;act 3 kind 0 rank 0 delay 0;", 10);
        right("zone 3 needs 1 of 0;act 3 kind 0 rank 0 delay 0;", 0);
    }

    private static void wrongRow(String row, int word) {
        wrongBehind(ZONES + ACTS, ZONES_WORDS + ACTS_WORDS, row, word);
    }

    private static void rowSentences() {
        right(ZONES + ACTS + "when 0 does 1;", 1);
        right(ZONES + ACTS + "when 0&1does 1;when 1 & 0 does 0;when 0 does 1;when 0 does 1;", 4);
        wrongRow("when 2 does 1;", 1);
        wrongRow("when 20 does 1;", 1);
        wrongRow("when does 1;", 1);
        wrongRow("when 0 1 does 1;", 2);
        wrongRow("when 0;", 2);
        wrongRow("when 0 & does 1;", 3);
        wrongRow("when 0 & 2 does 1;", 3);
        wrongRow("when 0 & 0 does 1;", 3);
        wrongRow("when 0 & 00 does 1;", 3);
        wrongRow("when 0 & 1 & 0 does 1;", 4);
        wrongRow("when 0 && 1 does 1;", 3);
        wrongRow("when 0 & 1 1;", 4);
        wrongRow("when 0 does 2;", 3);
        wrongRow("when 0 does 20;", 3);
        wrongRow("when 0 does;", 3);
        wrongRow("when 0 does 1 0;", 4);
        wrongRow("when 0 & 1 does 2;", 5);
        wrongRow("when 0 & 1 does 1 &", 6);
        wrongRow("when 0 does 1;when 2 does 1;", 6);
        wrong("when 0 does 0;" + ZONES + ACTS, 1);
        wrong(ZONES + "when 0 does 0;" + ACTS, ZONES_WORDS + 3);
        wrong(ACTS + "when 0 does 0;" + ZONES, ACTS_WORDS + 1);
    }

    private static void wrongHold(String hold, int word) {
        wrongBehind(ACTS, ACTS_WORDS, hold, word);
    }

    private static void holdSentences() {
        right(ACTS + "hold 0;hold 1;", 0);
        wrong("hold 0;" + ACTS, 1);
        wrongHold("hold 2;", 1);
        wrongHold("hold 20;", 1);
        wrongHold("hold;", 1);
        wrongHold("hold 0 1;", 2);
        wrongHold("hold 0;hold 0;", 4);
        wrongHold("hold 0;hold 1;hold 1;", 7);
    }

    private static void rowsAreFiftyAtMost() {
        AlarmMatrix x = new AlarmMatrix(3);
        Check.type(x, ZONES + ACTS);
        for (int k = 0; k < 50; k++) {
            x.say(2, k % 2, 0, 0, 0);
        }
        Check.due("fifty", 50, () -> x.read());
        Check.type(x, "when");
        int word = ZONES_WORDS + ACTS_WORDS + 250;
        Check.due("the fifty-first row's first word", -1 - word, () -> x.read());
        x.cutText(4);
        Check.type(x, "hold 1;");
        Check.due("other sentences may come", 50, () -> x.read());
        x.say(3, 0, 1, 1, 0);
        Check.due("a row of two counts too", -1 - word - 3, () -> x.read());
    }

    private static void textsThatEndWithinASentence() {
        String[] sentences = {
            "zone 3 needs 1 of 0 ;", "act 4 kind 0 rank 0 delay 0 ;", "when 0 does 0 ;", "when 0 & 1 does 0 ;", "hold 0 ;"};
        for (String sentence : sentences) {
            String[] parts = sentence.split(" ");
            StringBuilder begun = new StringBuilder();
            for (int k = 0; k < parts.length - 1; k++) {
                begun.append(parts[k]).append(' ');
                wrongBehind(ZONES + ACTS, ZONES_WORDS + ACTS_WORDS, begun.toString(), k + 1);
            }
        }
    }

    private static void readReplaces() {
        AlarmMatrix x = Check.readNew(5, "zone 3 needs 2 of 0 1;act 4 kind 3 rank 9 delay 0;when 3 does 4;hold 4;");
        x.signal(0, 60);
        x.signal(1, 60);
        x.loop(2, 4);
        x.ticks(1);
        x.cutText(x.cutText(0));
        Check.type(x, "zone 5 needs 1 of 0;act 6 kind 1 rank 2 delay 3;");
        Check.due("no rows", 0, () -> x.read());
        Check.due("read again", 0, () -> x.read());
        Check.due("the text stays", 48, () -> x.cutText(0));
        Check.badArgument("the old zone is gone", () -> x.zone(3, 0));
        Check.badArgument("the old act is gone", () -> x.act(4, 0));
        Check.badArgument("the old row is gone", () -> x.row(0, 0));
        Check.due("the new act alone is ranked", 6, () -> x.ranked(0));
        Check.due("one act", AlarmMatrix.NONE, () -> x.ranked(1));
        Check.due("the new zone is on", 1, () -> x.zone(5, 0));
        Check.due("values stay", 60, () -> x.signal(1, 60));
        Check.due("loops stay", 1, () -> x.heard(2));
        Check.due("events stay", 4, () -> x.event(0, 1));
        Check.badArgument("no event by reading", () -> x.event(1, 0));
        Check.due("time stays", 1, () -> x.time());
        x.cutText(x.cutText(0));
        Check.type(x, "act 4 kind 3 rank 9 delay 0;");
        Check.due("act 4 again", 0, () -> x.read());
        Check.due("and not held", 0, () -> x.act(4, 5));
    }

    private static void wrongTextChangesNothing() {
        AlarmMatrix x = Check.readNew(5, "zone 3 needs 2 of 0 1;act 4 kind 3 rank 9 delay 7;when 3 does 4;");
        x.signal(0, 60);
        x.signal(1, 60);
        x.signal(2, 60);
        x.fault(2, true);
        x.signal(1, 0);
        x.ticks(1);
        x.signal(1, 60);
        Check.type(x, "act 5 kind 1 rank 1 delay 1;zone 4 needs 1 of 2;hold 4;when 3 & 4 does 5;zone");
        Check.due("wrong", -50, () -> x.read());
        Check.badArgument("no act 5", () -> x.act(5, 0));
        Check.badArgument("no zone 4", () -> x.zone(4, 0));
        Check.badArgument("one row", () -> x.row(1, 0));
        Check.due("not held", 0, () -> x.act(4, 5));
        Check.due("one act ranked", AlarmMatrix.NONE, () -> x.ranked(1));
        Check.due("the zone", 1, () -> x.zone(3, 0));
        Check.due("it works on", 1, () -> x.ticks(1));
        Check.due("done", 2, () -> x.act(4, 0));
        Check.due("wrong still", -50, () -> x.read());
        Check.due("done still", 2, () -> x.act(4, 0));
    }

    private static void readLetsActsRest() {
        AlarmMatrix x = Check.readNew(5,
            "zone 0 needs 1 of 0 1;act 0 kind 0 rank 9 delay 0;act 1 kind 0 rank 9 delay 4;when 0 does 0;when 0 does 1;"
            + "hold 0;");
        x.signal(0, 60);
        x.ticks(3);
        Check.due("done", 2, () -> x.act(0, 0));
        Check.due("waits", 1, () -> x.act(1, 1));
        Check.due("look", 1, () -> x.person(0));
        Check.due("read", 2, () -> x.read());
        Check.due("rests", 0, () -> x.act(0, 0));
        Check.due("rests too", 0, () -> x.act(1, 0));
        Check.due("waits no more", AlarmMatrix.NONE, () -> x.act(1, 1));
        Check.badArgument("no event of that", () -> x.event(1, 0));
        Check.due("nobody waits", 0, () -> x.person(1));
        Check.due("read once more", 2, () -> x.read());
        Check.due("rests still", 0, () -> x.act(0, 0));
        Check.due("rests still, too", 0, () -> x.act(1, 0));
        Check.due("done anew", 1, () -> x.ticks(1));
        Check.due("waits anew", 4, () -> x.act(1, 1));
        Check.due("may be looked at again", 1, () -> x.person(0));
    }
}
