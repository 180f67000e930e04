/** Objects that tests begin with. */
final class Sample {
    /** Points 0 and 1, points 2 and 3: of each zone one is enough, and two are sure. */
    static final String TWO_ZONES = "zone 0 needs 1 of 0 1;zone 1 needs 1 of 2 3;";

    private static final int LONG_SENTENCE = 91;

    private Sample() {
    }

    /** Writes a text character by character: one call each of the 512 that an object is good for. */
    static void type(AlarmMatrix x, String text) {
        for (int k = 0; k < text.length(); k++) {
            x.unit(text.charAt(k));
        }
    }

    static AlarmMatrix typed(int points, String text) {
        AlarmMatrix x = new AlarmMatrix(points);
        type(x, text);
        return x;
    }

    static AlarmMatrix read(int points, String text) {
        AlarmMatrix x = typed(points, text);
        if (x.read() < 0) {
            throw new IllegalStateException("a test's own text is wrong: " + text);
        }
        return x;
    }

    /**
     * Six points, and something of all that an object can hold: act 0 waits and was looked at, 1 latches, is done and
     * called no more, 2 waits, 3 rests; point 3 is faulty, disabled and not heard. TIME is 3.
     */
    static AlarmMatrix busy() {
        return busy(6, 3);
    }

    private static AlarmMatrix busy(int points, int time) {
        AlarmMatrix x = new AlarmMatrix(points);
        int left = time - 3;
        while (left > 0) {
            x.ticks(Math.min(200, left));
            left -= 200;
        }
        sayAll(x);
        x.read();
        happenTo(x);
        x.fault(3, true);
        x.disable(3, time + 47);
        x.loop(0, 3);
        x.cut(0, 0, true);
        x.cut(0, 1, true);
        x.loop(1, 5);
        x.cut(1, 0, true);
        return x;
    }

    private static void sayAll(AlarmMatrix x) {
        for (int zone = 0; zone < 3; zone++) {
            x.say(0, zone, 1, 2 * zone, 2);
        }
        x.say(1, 0, 1, 5, 9);
        x.say(1, 1, 2, 5, 0);
        x.say(1, 2, 3, 7, 9);
        x.say(1, 3, 0, 1, 0);
        for (int act = 0; act < 3; act++) {
            x.say(2, act, act, 0, 0);
        }
        x.say(3, 0, 1, 3, 0);
        x.say(4, 1, 0, 0, 0);
    }

    private static void happenTo(AlarmMatrix x) {
        x.signal(2, 80);
        x.ticks(1);
        x.signal(2, 20);
        x.signal(0, 60);
        x.ticks(1);
        x.person(0);
        x.signal(4, 99);
        x.ticks(1);
    }

    /** A busy object at another TIME. */
    static AlarmMatrix atTime(int time) {
        return busy(6, time);
    }

    /** A busy object whose text has so many characters. */
    static AlarmMatrix textOf(int characters) {
        AlarmMatrix x = busy();
        int left = characters - x.cutText(0);
        while (left >= LONG_SENTENCE) {
            x.say(0, 2, 1, 9999, 12);
            left -= LONG_SENTENCE;
        }
        type(x, "z".repeat(left));
        return x;
    }

    /** A busy object with 50 points, whose loop 3 has 40 of them: 49 down to 10. */
    static AlarmMatrix busyWithFullLoop() {
        AlarmMatrix x = busy(50, 3);
        fillLoop3(x);
        return x;
    }

    /** 50 points, and nothing but loop 3 with 40 of them: 49 down to 10. */
    static AlarmMatrix fullLoop() {
        AlarmMatrix x = new AlarmMatrix(50);
        fillLoop3(x);
        return x;
    }

    private static void fillLoop3(AlarmMatrix x) {
        for (int k = 0; k < 40; k++) {
            x.loop(3, 49 - k);
        }
    }

    /** All the acts that there can be, called by zone 0: points 0 and 1, one of which is enough. */
    static AlarmMatrix twentyActs(int delay, boolean held) {
        AlarmMatrix x = new AlarmMatrix(2);
        x.say(0, 0, 1, 0, 2);
        for (int act = 0; act < 20; act++) {
            x.say(1, act, 0, 0, delay);
            x.say(2, 0, act, 0, 0);
            if (held) {
                x.say(4, act, 0, 0, 0);
            }
        }
        x.read();
        return x;
    }

    /** A loop 5 with points 0 .. size - 1 in their order, all of them on, and zone 0 of the first 12 of them. */
    static AlarmMatrix loopOf(int size) {
        AlarmMatrix x = new AlarmMatrix(size + 1);
        x.say(0, 0, 1, 0, Math.min(12, size));
        x.read();
        for (int point = 0; point < size; point++) {
            x.signal(point, 100);
            x.loop(5, point);
        }
        return x;
    }

    /** Act 5 is done and rests by turns, an event at each second. */
    static AlarmMatrix withEvents(int events) {
        AlarmMatrix x = read(1, "zone 0 needs 1 of 0;act 5 kind 0 rank 0 delay 0;when 0 does 5;");
        for (int k = 1; k <= events; k++) {
            x.signal(0, k % 2 * 100);
            x.ticks(1);
        }
        return x;
    }
}
