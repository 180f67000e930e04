/** Promise 5, with the sentences of "THE TEXT": which word is wrong. */
final class ReadTest {
    private static final String ZONES = "zone 0 needs 1 of 0;zone 1 needs 2 of 1 2;";
    private static final int ZONES_WORDS = 15;
    private static final String ACTS = "act 0 kind 0 rank 0 delay 0;act 1 kind 5 rank 99 delay 600;";
    private static final int ACTS_WORDS = 18;
    private static final int POINTS = 15;

    public static void main(String[] args) {
        Check.sentence("Promise 5", "how many rows it has", ReadTest::howManyRows);
        Check.sentence("Promise 5", "-1 less the number of the wrong word", ReadTest::minusOneLessTheNumber);
        Check.sentence("Promise 5, the text", "2000 at most", ReadTest::aFullText);
        Check.sentence("Promise 5, the text", "words as long as they can be", ReadTest::wordsAsLongAsTheyCanBe);
        Check.sentence("Promise 5, the text", "blanks and line ends as you like", ReadTest::blanksAndLineEnds);
        Check.sentence("Promise 5, the text", "; and & are words of their own", ReadTest::signsAreWords);
        Check.sentence("Promise 5, the text", "any number of each sentence", ReadTest::anyNumberOfEach);
        Check.sentence("Promise 5, the text", "zone Z (0 .. 19)", ReadTest::zoneNumbers);
        Check.sentence("Promise 5, the text", "1 .. 12 points", ReadTest::oneToTwelvePoints);
        Check.sentence("Promise 5, the text", "P is one of the points", ReadTest::pointNumbers);
        Check.sentence("Promise 5, the text", "N (1 .. how many)", ReadTest::needsOneToHowMany);
        Check.sentence("Promise 5, the text", "N is 1 .. 12 as it comes", ReadTest::needsAsItComes);
        Check.sentence("Promise 5, the text", "N greater than the points: asked behind the sentence",
            ReadTest::needsBehindTheSentence);
        Check.sentence("Promise 5, the text", "act A (0 .. 19)", ReadTest::actNumbers);
        Check.sentence("Promise 5, the text", "K (0 .. 5)", ReadTest::kinds);
        Check.sentence("Promise 5, the text", "R (0 .. 99)", ReadTest::ranks);
        Check.sentence("Promise 5, the text", "S (0 .. 600)", ReadTest::delays);
        Check.sentence("Promise 5, the text", "a ROW: one zone, or both", ReadTest::rowsOfOneOrTwo);
        Check.sentence("Promise 5, the text", "a ROW (50 at most)", ReadTest::fiftyRows);
        Check.sentence("Promise 5, the text", "the first word of a fifty-first row", ReadTest::fiftyFirstRow);
        Check.sentence("Promise 5, the text", "told before it is used", ReadTest::toldBeforeItIsUsed);
        Check.sentence("Promise 5, the text", "told once", ReadTest::toldOnce);
        Check.sentence("Promise 5, the text", "no point is twice in a zone", ReadTest::noPointTwice);
        Check.sentence("Promise 5, the text", "no act is held twice", ReadTest::noActHeldTwice);
        Check.sentence("Promise 5, the text", "both zones are not the same", ReadTest::bothZonesNotTheSame);
        Check.sentence("Promise 5, the text", "the first one that cannot stand", ReadTest::firstOfTwoWrongWords);
        Check.sentence("Promise 5, the text", "another word was to come", ReadTest::anotherWordWasToCome);
        Check.sentence("Promise 5, the text", "with more than 6 digits", ReadTest::moreThanSixDigits);
        Check.sentence("Promise 5, the text", "a character that is in no word", ReadTest::charactersInNoWord);
        Check.sentence("Promise 5, the text", "it ends within a sentence", ReadTest::endsWithinASentence);
        Check.end();
    }

    private static void reads(String text, int want) {
        AlarmMatrix x = Sample.typed(POINTS, text);
        Check.due("read of \"" + text + "\"", want, () -> x.read());
    }

    private static void right(String text, int rows) {
        reads(text, rows);
    }

    private static void wrong(String text, int word) {
        reads(text, -1 - word);
    }

    private static void wrongRow(String row, int word) {
        wrong(ZONES + ACTS + row, ZONES_WORDS + ACTS_WORDS + word);
    }

    private static void wrongHold(String hold, int word) {
        wrong(ACTS + hold, ACTS_WORDS + word);
    }

    private static void howManyRows() {
        right("", 0);
        right(ZONES, 0);
        right(ACTS + "hold 1;", 0);
        right(ZONES + ACTS + "when 0 does 1;", 1);
        right(ZONES + ACTS + "when 0 & 1 does 1;", 1);
        right(ZONES + ACTS + "when 0 does 1;hold 0;when 0 & 1 does 1;when 0 does 1;", 3);
    }

    private static void minusOneLessTheNumber() {
        wrong("x", 0);
        wrong("zone x", 1);
        wrong(ZONES + "x", ZONES_WORDS);
        wrong(ZONES + ACTS + "x", ZONES_WORDS + ACTS_WORDS);
    }

    private static void aFullText() {
        AlarmMatrix x = new AlarmMatrix(200);
        for (int zone = 0; zone < 20; zone++) {
            x.say(0, zone, 1, 100, 12);
        }
        for (int act = 0; act < 18; act++) {
            x.say(1, act, 5, 99, 600);
        }
        String last = "hold 0;";
        Sample.type(x, "\n".repeat(2000 - last.length() - x.cutText(0)) + last);
        Check.due("its length", 2000, () -> x.cutText(0));
        Check.due("it is right", 0, () -> x.read());
        Check.due("its last sentence is read", 1, () -> x.act(0, 5));
        x.cutText(1);
        Check.due("without its last character", -1 - (20 * 18 + 18 * 9 + 2), () -> x.read());
        x.unit('!');
        Check.due("another last character", -1 - (20 * 18 + 18 * 9 + 2), () -> x.read());
        AlarmMatrix blank = new AlarmMatrix(1);
        for (int k = 0; k < 21; k++) {
            blank.say(0, 0, 1, 9999, 12);
        }
        Check.due("a long text, wrong at its sixth word", -1 - 5, () -> blank.read());
    }

    private static void wordsAsLongAsTheyCanBe() {
        right("zone0needs1of0 1;", 0);
        right(ZONES + ACTS + "when0&1does1;hold0;", 1);
        wrong("zones 0 needs 1 of 0;", 0);
        wrong("zon e 0 needs 1 of 0;", 0);
        wrong("zone 1 2 needs 1 of 0;", 2);
        wrong("zone 0 needsof 1 of 0;", 2);
        wrong("zone 0 need s 1 of 0;", 2);
        wrong("zone 1x needs 1 of 0;", 2);
        wrong("zone x1 needs 1 of 0;", 1);
        AlarmMatrix x = Sample.read(POINTS, "zone 0 needs 1 of 1 2 12;");
        x.signal(12, 50);
        Check.due("12 is a point", 1, () -> x.zone(0, 3));
    }

    private static void blanksAndLineEnds() {
        right(" ", 0);
        right("\n", 0);
        right(" \n \n\n", 0);
        right("\n zone\n0  needs \n 1 of\n\n0\n;\n", 0);
        right("  zone 0 needs 1 of 0;", 0);
        right("zone 0 needs 1 of 0;  \n", 0);
        int[] others = {9, 11, 12, 13, 31, 33};
        for (int c : others) {
            wrong("zone" + (char) c + "0 needs 1 of 0;", 1);
            wrong(String.valueOf((char) c), 0);
        }
        wrong("zone\r\n0 needs 1 of 0;", 1);
    }

    private static void signsAreWords() {
        wrong(";", 0);
        wrong("&", 0);
        wrong("zone 0 needs 1 of 0;;", 7);
        wrong("zone 0 needs 1 of 0;;;x", 7);
        wrongRow("when 0 && 1 does 1;", 3);
        wrongRow("when 0 &;", 3);
        wrongRow("when 0;& 1 does 1;", 2);
        right(ZONES + ACTS + "when 0&1 does 1 ;when 0 &1 does 1;", 2);
    }

    private static void anyNumberOfEach() {
        AlarmMatrix x = new AlarmMatrix(1);
        for (int k = 0; k < 20; k++) {
            x.say(0, k, 1, 0, 1);
            x.say(1, k, 0, k, 0);
        }
        for (int k = 0; k < 50; k++) {
            x.say(2, k % 10, k / 5, 0, 0);
        }
        for (int k = 0; k < 20; k++) {
            Sample.type(x, "hold" + k + ";");
        }
        Check.due("20 zones, 20 acts, 50 rows and 20 holds", 50, () -> x.read());
        x.signal(0, 50);
        Check.due("all in rows are done", 10, () -> x.ticks(1));
        Check.due("the last zone is on", 1, () -> x.zone(19, 0));
        Check.due("the last act latches", 1, () -> x.act(19, 5));
        Check.due("the last row is met", 1, () -> x.row(49, 3));
    }

    private static void zoneNumbers() {
        right("zone 0 needs 1 of 0;zone 19 needs 1 of 14;", 0);
        wrong("zone 20 needs 1 of 0;", 1);
        wrong("zone 999999 needs 1 of 0;", 1);
        wrong("zone -1 needs 1 of 0;", 1);
        wrongRow("when 20 does 1;", 1);
        wrongRow("when 0 & 20 does 1;", 3);
    }

    private static void oneToTwelvePoints() {
        wrong("zone 1 needs 1 of;", 5);
        right("zone 1 needs 1 of 7;", 0);
        right("zone 1 needs 1 of 0 1 2 3 4 5 6 7 8 9 10;", 0);
        right("zone 1 needs 1 of 0 1 2 3 4 5 6 7 8 9 10 11;", 0);
        wrong("zone 1 needs 1 of 0 1 2 3 4 5 6 7 8 9 10 11 12;", 17);
        wrong("zone 1 needs 1 of 0 1 2 3 4 5 6 7 8 9 10 11 12 13;", 17);
        wrong("zone 1 needs 1 of 0 1 2 3 4 5 6 7 8 9 10 11 0;", 17);
        wrong("zone 1 needs 1 of 0 1 2 3 4 5 6 7 8 9 10 11 x", 17);
    }

    private static void pointNumbers() {
        right("zone 1 needs 1 of 0 14;", 0);
        wrong("zone 1 needs 1 of 15;", 5);
        wrong("zone 1 needs 1 of 0 15;", 6);
        wrong("zone 1 needs 1 of 0 999999;", 6);
        AlarmMatrix one = Sample.typed(1, "zone 1 needs 1 of 0;");
        Check.due("the one point", 0, () -> one.read());
        Sample.type(one, "zone 2 needs 1 of 1;");
        Check.due("a second point", -1 - 12, () -> one.read());
        AlarmMatrix many = Sample.typed(200, "zone 1 needs 1 of 199;");
        Check.due("the last point", 0, () -> many.read());
        Sample.type(many, "zone 2 needs 1 of 200;");
        Check.due("point 200", -1 - 12, () -> many.read());
    }

    private static void needsOneToHowMany() {
        wrong("zone 1 needs 0 of 0;", 3);
        right("zone 1 needs 1 of 0;", 0);
        wrong("zone 1 needs 2 of 0;", 3);
        right("zone 1 needs 2 of 0 1;", 0);
        wrong("zone 1 needs 3 of 0 1;", 3);
        right("zone 1 needs 12 of 0 1 2 3 4 5 6 7 8 9 10 11;", 0);
        wrong("zone 1 needs 12 of 0 1 2 3 4 5 6 7 8 9 10;", 3);
    }

    private static void needsAsItComes() {
        wrong("zone 1 needs 0 what", 3);
        wrong("zone 1 needs 13 of 0 1 2 3 4 5 6 7 8 9 10 11;", 3);
        wrong("zone 1 needs 13 what", 3);
        wrong("zone 1 needs 12 what", 4);
        wrong("zone 1 needs 12 of what", 5);
    }

    private static void needsBehindTheSentence() {
        wrong("zone 1 needs 3 of 0 15;", 6);
        wrong("zone 1 needs 3 of 0 0;", 6);
        wrong("zone 1 needs 3 of 0 1", 7);
        wrong("zone 1 needs 3 of 0 1 what", 7);
        wrong("zone 1 needs 3 of 0 1 zone", 7);
        wrong("zone 1 needs 3 of 0 1; what", 3);
        wrong("zone 1 needs 3 of 0 1;zone 1 needs 1 of 0;", 3);
        wrong("zone 0 needs 1 of 0;zone 1 needs 12 of 0;", 10);
    }

    private static void actNumbers() {
        right("act 0 kind 0 rank 0 delay 0;act 19 kind 0 rank 0 delay 0;", 0);
        wrong("act 20 kind 0 rank 0 delay 0;", 1);
        wrong("act 999999 kind 0 rank 0 delay 0;", 1);
        wrong("act -1 kind 0 rank 0 delay 0;", 1);
        wrongRow("when 0 does 20;", 3);
        wrongHold("hold 20;", 1);
    }

    private static void kinds() {
        right("act 0 kind 0 rank 0 delay 0;act 1 kind 5 rank 0 delay 0;", 0);
        wrong("act 0 kind 6 rank 0 delay 0;", 3);
        wrong("act 0 kind 999999 rank 0 delay 0;", 3);
        wrong("act 0 kind -1 rank 0 delay 0;", 3);
    }

    private static void ranks() {
        right("act 0 kind 0 rank 0 delay 0;act 1 kind 0 rank 99 delay 0;", 0);
        wrong("act 0 kind 0 rank 100 delay 0;", 5);
        wrong("act 0 kind 0 rank 999999 delay 0;", 5);
        wrong("act 0 kind 0 rank -1 delay 0;", 5);
    }

    private static void delays() {
        right("act 0 kind 0 rank 0 delay 0;act 1 kind 0 rank 0 delay 600;", 0);
        wrong("act 0 kind 0 rank 0 delay 601;", 7);
        wrong("act 0 kind 0 rank 0 delay 999999;", 7);
        wrong("act 0 kind 0 rank 0 delay -1;", 7);
    }

    private static void rowsOfOneOrTwo() {
        right(ZONES + ACTS + "when 0 does 1;", 1);
        right(ZONES + ACTS + "when 0 & 1 does 1;when 1 & 0 does 1;when 0 & 1 does 1;", 3);
        wrongRow("when does 1;", 1);
        wrongRow("when 0 & does 1;", 3);
        wrongRow("when 0 1 does 1;", 2);
        wrongRow("when 0 & 1 & 0 does 1;", 4);
    }

    private static AlarmMatrix rows(int rows) {
        AlarmMatrix x = Sample.typed(POINTS, ZONES + ACTS);
        for (int k = 0; k < rows; k++) {
            x.say(2, k % 2, 0, 0, 0);
        }
        return x;
    }

    private static void fiftyRows() {
        Check.due("forty-nine", 49, () -> rows(49).read());
        Check.due("fifty", 50, () -> rows(50).read());
        AlarmMatrix x = rows(49);
        x.say(3, 0, 1, 1, 0);
        Check.due("the fiftieth of two zones", 50, () -> x.read());
        Sample.type(x, "hold 1;");
        Check.due("other sentences behind them", 50, () -> x.read());
        Sample.type(x, "hold 2;");
        Check.due("and what is wrong in these", -1 - ZONES_WORDS - ACTS_WORDS - 252 - 3 - 1, () -> x.read());
    }

    private static void fiftyFirstRow() {
        int word = ZONES_WORDS + ACTS_WORDS + 250;
        AlarmMatrix x = rows(51);
        Check.due("a good one", -1 - word, () -> x.read());
        AlarmMatrix y = rows(50);
        Sample.type(y, "when");
        Check.due("its first word alone", -1 - word, () -> y.read());
        Sample.type(y, " what");
        Check.due("it comes before what is wrong in it", -1 - word, () -> y.read());
        y.cutText(9);
        y.say(3, 0, 1, 1, 0);
        Check.due("one of two zones", -1 - word, () -> y.read());
    }

    private static void toldBeforeItIsUsed() {
        wrong("when 0 does 0;" + ZONES + ACTS, 1);
        wrong(ACTS + "when 0 does 0;" + ZONES, ACTS_WORDS + 1);
        wrong(ZONES + "when 0 does 0;" + ACTS, ZONES_WORDS + 3);
        wrongRow("when 2 does 1;", 1);
        wrongRow("when 0 & 2 does 1;", 3);
        wrongRow("when 0 does 2;", 3);
        wrongRow("when 0 & 1 does 2;", 5);
        wrong("hold 0;" + ACTS, 1);
        wrongHold("hold 2;", 1);
        right("zone 3 needs 1 of 0;act 3 kind 0 rank 0 delay 0;when 3 does 3;hold 3;", 1);
        wrong("zone 3 needs 1 of 0;when 3 does 3;", 10);
        wrong("zone 3 needs 1 of 0;hold 3;", 8);
        wrong("act 3 kind 0 rank 0 delay 0;when 3 does 3;", 10);
        AlarmMatrix x = Sample.read(POINTS, ZONES + ACTS);
        x.cutText(x.cutText(0));
        Sample.type(x, "hold 0;");
        Check.due("what was read before is not told", -1 - 1, () -> x.read());
    }

    private static void toldOnce() {
        wrong("zone 1 needs 1 of 0;zone 1 needs 1 of 0;", 8);
        wrong("zone 1 needs 1 of 0;zone 01 needs 1 of 2;", 8);
        wrong("zone 19 needs 1 of 0;zone 0 needs 1 of 0;zone 19 needs 1 of 0;", 15);
        wrong("act 3 kind 0 rank 0 delay 0;act 3 kind 0 rank 0 delay 0;", 10);
        wrong(ACTS + "act 0 kind 1 rank 1 delay 1;", ACTS_WORDS + 1);
        right("zone 3 needs 1 of 0;act 3 kind 0 rank 0 delay 0;", 0);
        AlarmMatrix x = Sample.read(POINTS, ZONES + ACTS);
        Check.due("a second read tells it anew", 0, () -> x.read());
    }

    private static void noPointTwice() {
        wrong("zone 1 needs 1 of 3 3;", 6);
        wrong("zone 1 needs 1 of 3 03;", 6);
        wrong("zone 1 needs 1 of 3 4 3 4;", 7);
        wrong("zone 1 needs 1 of 0 1 2 3 4 5 6 7 8 9 10 0;", 16);
        wrong("zone 1 needs 1 of 0 1 2 3 4 5 6 7 8 9 10 10;", 16);
        right("zone 1 needs 1 of 3 4;zone 2 needs 1 of 4 3;", 0);
    }

    private static void noActHeldTwice() {
        right(ACTS + "hold 0;hold 1;", 0);
        wrongHold("hold 0;hold 0;", 4);
        wrongHold("hold 0;hold 00;", 4);
        wrongHold("hold 0;hold 1;hold 1;", 7);
        wrongHold("hold 0;hold 1;hold 0;", 7);
    }

    private static void bothZonesNotTheSame() {
        wrongRow("when 0 & 0 does 1;", 3);
        wrongRow("when 0 & 00 does 1;", 3);
        wrongRow("when 1 & 1 does 1;", 3);
        right(ZONES + ACTS + "when 0 & 1 does 1;when 1 & 0 does 1;", 2);
    }

    private static void firstOfTwoWrongWords() {
        wrong("x y", 0);
        wrong("zone 20 needs 13 of 15;", 1);
        wrong("zone 1 needs 0 of 15;", 3);
        wrong("act 0 kind 6 rank 100 delay 601;", 3);
        wrongRow("when 2 & 2 does 2;", 1);
        wrongHold("hold 0;hold 0;x", 4);
        wrong("zone 1 needs 1 of 0;x;zone 1 needs 1 of 0;", 7);
    }

    private static void anotherWordWasToCome() {
        String[] first = {"x", "zon", "Zone", "7", "needs", "does", "of"};
        for (String word : first) {
            wrong(word, 0);
            wrong("zone 0 needs 1 of 0;" + word, 7);
        }
        wrong("zone zone needs 1 of 0;", 1);
        wrong("zone 1 1 of 0;", 2);
        wrong("zone 1 of needs 1 0;", 2);
        wrong("zone 1 needs of 1 0;", 3);
        wrong("zone 1 needs 1 0;", 4);
        wrong("zone 1 needs 1 of of;", 5);
        wrong("zone 1 needs 1 of 0 &;", 6);
        wrong("zone 1 needs 1 of 0 zone 2;", 6);
        wrong("act kind 0 rank 0 delay 0;", 1);
        wrong("act 0 rank 0 kind 0 delay 0;", 2);
        wrong("act 0 kind rank 0 delay 0;", 3);
        wrong("act 0 kind 0 delay 0;", 4);
        wrong("act 0 kind 0 rank delay 0;", 5);
        wrong("act 0 kind 0 rank 0 0;", 6);
        wrong("act 0 kind 0 rank 0 delay;", 7);
        wrong("act 0 kind 0 rank 0 delay 0 0;", 8);
        wrong("act 0 kind 0 rank 0 delay 0 hold 0;", 8);
        wrongRow("when 0;", 2);
        wrongRow("when 0 & 1 1;", 4);
        wrongRow("when 0 does;", 3);
        wrongRow("when 0 does 1 0;", 4);
        wrongRow("when 0 & 1 does 1 &", 6);
        wrongHold("hold;", 1);
        wrongHold("hold 0 1;", 2);
    }

    private static void moreThanSixDigits() {
        right("zone 000000 needs 000001 of 00000 000001;act 000019 kind 000005 rank 000099 delay 000600;"
            + "when 000000 does 000019;hold 000019;", 1);
        wrong("zone 0000000 needs 1 of 0;", 1);
        wrong("zone 0 needs 0000001 of 0;", 3);
        wrong("zone 0 needs 1 of 0000000;", 5);
        wrong("act 0000000 kind 0 rank 0 delay 0;", 1);
        wrong("act 0 kind 0000000 rank 0 delay 0;", 3);
        wrong("act 0 kind 0 rank 0000000 delay 0;", 5);
        wrong("act 0 kind 0 rank 0 delay 0000000;", 7);
        wrongRow("when 0000000 does 0;", 1);
        wrongRow("when 0 & 0000001 does 0;", 3);
        wrongRow("when 0 does 0000000;", 3);
        wrongHold("hold 0000000;", 1);
        wrong("zone 1000000 needs 1 of 0;", 1);
        wrong("zone 4294967296 needs 1 of 0;", 1);
        wrong("zone 18446744073709551616 needs 1 of 0;", 1);
    }

    private static boolean isInAWordOrAGap(int c) {
        return c >= 'a' && c <= 'z' || c >= '0' && c <= '9' || c == ';' || c == '&' || c == ' ' || c == '\n';
    }

    private static void charactersInNoWord() {
        for (int c = 0; c <= 127; c++) {
            if (!isInAWordOrAGap(c)) {
                String odd = String.valueOf((char) c);
                wrong(odd, 0);
                wrong(odd + odd, 0);
                wrong(odd + "zone 0 needs 1 of 0;", 0);
                wrong("zo" + odd + "ne 0 needs 1 of 0;", 0);
                wrong("zone" + odd + "0 needs 1 of 0;", 1);
                wrong("zone 1" + odd + "2 needs 1 of 0;", 2);
                wrong("zone 0 needs 1 of 0" + odd + "1;", 6);
                wrong("zone 0 needs 1 of 0" + odd + odd, 6);
                wrong("zone 0 needs 1 of 0;" + odd, 7);
            }
        }
    }

    private static void endsWithinASentence() {
        String[] sentences = {
            "zone 3 needs 1 of 0 ;", "act 4 kind 0 rank 0 delay 0 ;", "when 0 does 0 ;", "when 0 & 1 does 0 ;", "hold 0 ;"};
        for (String sentence : sentences) {
            String[] parts = sentence.split(" ");
            String begun = "";
            for (int k = 0; k < parts.length - 1; k++) {
                begun += parts[k];
                wrongRow(begun, k + 1);
                begun += " ";
                wrongRow(begun, k + 1);
                wrongRow(begun + "\n ", k + 1);
            }
        }
        wrong("zone 1 needs 12 of 0 1 2 3 4 5 6 7 8 9 10 11", 17);
        wrong("zone 1 needs 1 of 0 1 2 3", 9);
    }
}
