import java.util.Arrays;

/**
 * An alarm matrix: a text says which points make a zone, how many of them it takes, what is done when zones are on,
 * and how long a person has to look first; points hang on loops that may be cut; what was done is told row by row.
 */
public final class AlarmMatrix {
    /** There is none. */
    public static final int NONE = -1;

    private static final int MOST_POINTS = 200;
    private static final int MOST_CHARACTERS = 2000;
    private static final int MOST_ROWS = 50;
    private static final int MOST_ZONE_POINTS = 12;
    private static final int MOST_LOOP_POINTS = 40;
    private static final int MOST_TICKS = 200;
    private static final int LAST_TIME = 20000;
    private static final int LAST_DISABLED = 1000000;
    private static final int GREATEST_SAID = 9999;
    private static final int GREATEST_VALUE = 100;
    private static final int ON_VALUE = 50;
    private static final int ZONES = 20;
    private static final int ACTS = 20;
    private static final int LOOPS = 8;
    private static final int KEPT_EVENTS = 60;

    private static final int REST = 0;
    private static final int WAITING = 1;
    private static final int DONE = 2;

    private static final int EVENT_REST = 0;
    private static final int EVENT_DONE = 1;

    private static final int SAY_ZONE = 0;
    private static final int SAY_ACT = 1;
    private static final int SAY_ROW = 2;
    private static final int SAY_ROW_OF_TWO = 3;
    private static final int SAY_HOLD = 4;

    private final Text text;
    private final Points points;
    private final Loop[] loops;
    private final Events events;
    private Plan plan;
    // A wrong text must leave what was read before as it is, so reading fills this one, and a good one takes its place.
    private Plan spare;
    private int now;

    public AlarmMatrix(int points) {
        this.text = new Text();
        this.points = new Points(Math.max(1, Math.min(MOST_POINTS, points)));
        this.loops = new Loop[LOOPS];
        for (int k = 0; k < LOOPS; k++) {
            this.loops[k] = new Loop();
        }
        this.events = new Events();
        this.plan = new Plan();
        this.spare = new Plan();
        this.now = 0;
    }

    // ---- the text

    public int unit(int c) throws IllegalArgumentException, IllegalStateException {
        if (!isWithin(c, 0, 127)) {
            throw new IllegalArgumentException("no such character");
        }
        if (text.size() >= MOST_CHARACTERS) {
            throw new IllegalStateException("the text is full");
        }
        text.put((char) c);
        return text.size();
    }

    public int say(int which, int a, int b, int c, int d) throws IllegalArgumentException, IllegalStateException {
        if (!canBeSaid(which, a, b, c, d)) {
            throw new IllegalArgumentException("no such sentence, or a number out of its bounds");
        }
        int before = text.size();
        putSentence(which, a, b, c, d);
        if (text.size() > MOST_CHARACTERS) {
            text.shrinkTo(before);
            throw new IllegalStateException("the text would be too long");
        }
        return text.size();
    }

    public int cutText(int n) throws IllegalArgumentException {
        if (!isWithin(n, 0, text.size())) {
            throw new IllegalArgumentException("the text has not so many characters");
        }
        text.shrinkTo(text.size() - n);
        return text.size();
    }

    public int read() {
        Reader reader = new Reader(text, spare, points.count());
        int wrong = reader.findWrongWord();
        if (wrong != NONE) {
            return -1 - wrong;
        }
        Plan old = plan;
        plan = spare;
        spare = old;
        return plan.rowCount();
    }

    // ---- points and loops

    public int signal(int point, int v) throws IllegalArgumentException {
        if (!points.isPoint(point) || !isWithin(v, 0, GREATEST_VALUE)) {
            throw new IllegalArgumentException("no such point, or a value out of its bounds");
        }
        return points.swapValue(point, v);
    }

    public boolean fault(int point, boolean on) throws IllegalArgumentException {
        if (!points.isPoint(point)) {
            throw new IllegalArgumentException("no such point");
        }
        return points.swapFaulty(point, on);
    }

    public int disable(int point, int until) throws IllegalArgumentException {
        if (!points.isPoint(point) || !isWithin(until, 0, LAST_DISABLED)) {
            throw new IllegalArgumentException("no such point, or a second out of its bounds");
        }
        return points.swapUntil(point, until);
    }

    public int loop(int loop, int point) throws IllegalArgumentException, IllegalStateException {
        if (!isLoop(loop) || !points.isPoint(point)) {
            throw new IllegalArgumentException("no such loop or point");
        }
        if (points.isInLoop(point) || loops[loop].isFull()) {
            throw new IllegalStateException("the point is in a loop, or the loop is full");
        }
        // A new point stands behind every cut of its loop, so it is heard, and nothing changes for the others.
        loops[loop].add(point);
        points.putInLoop(point);
        return loops[loop].size();
    }

    public boolean cut(int loop, int at, boolean on) throws IllegalArgumentException {
        if (!isLoop(loop) || !isWithin(at, 0, loops[loop].size())) {
            throw new IllegalArgumentException("no such loop or place");
        }
        boolean before = loops[loop].swapCut(at, on);
        points.hearThrough(loops[loop]);
        return before;
    }

    public int heard(int loop) throws IllegalArgumentException {
        if (!isLoop(loop)) {
            throw new IllegalArgumentException("no such loop");
        }
        return loops[loop].countHeard();
    }

    public int unreachable(int k) throws IllegalArgumentException {
        if (k < 0) {
            throw new IllegalArgumentException("no such place");
        }
        return points.findUnheard(k);
    }

    // ---- what happens

    public int ticks(int n) throws IllegalArgumentException, IllegalStateException {
        if (!isWithin(n, 1, MOST_TICKS)) {
            throw new IllegalArgumentException("not so many ticks at once");
        }
        if (now + n > LAST_TIME) {
            throw new IllegalStateException("TIME would be too late");
        }
        int happened = 0;
        for (int k = 0; k < n; k++) {
            now++;
            plan.look(points, now);
            happened += plan.acts().goOn(now, events);
        }
        return happened;
    }

    public int person(int what) throws IllegalArgumentException {
        if (!isWithin(what, 0, 1)) {
            throw new IllegalArgumentException("a person does not do that");
        }
        return what == 0 ? plan.acts().waitAnew(now) : plan.acts().confirm();
    }

    public int reset() {
        plan.look(points, now);
        return plan.acts().release(now, events);
    }

    // ---- what is told

    public int act(int act, int what) throws IllegalArgumentException {
        if (!plan.acts().isTold(act) || !isWithin(what, 0, 5)) {
            throw new IllegalArgumentException("no such act, or nothing such of it");
        }
        return plan.acts().tellOf(act, what);
    }

    public int zone(int zone, int what) throws IllegalArgumentException {
        if (!plan.zones().isTold(zone) || !isWithin(what, 0, 3)) {
            throw new IllegalArgumentException("no such zone, or nothing such of it");
        }
        plan.look(points, now);
        return plan.zones().tellOf(zone, what);
    }

    public int row(int k, int what) throws IllegalArgumentException {
        if (!isWithin(k, 0, plan.rowCount() - 1) || !isWithin(what, 0, 3)) {
            throw new IllegalArgumentException("no such row, or nothing such of it");
        }
        plan.look(points, now);
        return plan.tellOfRow(k, what);
    }

    public int event(int k, int what) throws IllegalArgumentException {
        if (!isWithin(k, 0, events.count() - 1) || !isWithin(what, 0, 2)) {
            throw new IllegalArgumentException("no such event, or nothing such of it");
        }
        return events.tellOf(k, what);
    }

    public int ranked(int place) throws IllegalArgumentException {
        if (place < 0) {
            throw new IllegalArgumentException("no such place");
        }
        return plan.acts().findRanked(place);
    }

    public int time() {
        return now;
    }

    // ---- helpers of the calls

    private static boolean isWithin(int number, int least, int greatest) {
        return number >= least && number <= greatest;
    }

    private static int oneIf(boolean yes) {
        return yes ? 1 : 0;
    }

    private static boolean isLoop(int loop) {
        return isWithin(loop, 0, LOOPS - 1);
    }

    private static boolean isSayable(int number) {
        return isWithin(number, 0, GREATEST_SAID);
    }

    private static boolean canBeSaid(int which, int a, int b, int c, int d) {
        switch (which) {
            case SAY_ZONE:
                return isSayable(a) && isSayable(b) && isSayable(c) && isWithin(d, 1, MOST_ZONE_POINTS);
            case SAY_ACT:
                return isSayable(a) && isSayable(b) && isSayable(c) && isSayable(d);
            case SAY_ROW:
                return isSayable(a) && isSayable(b);
            case SAY_ROW_OF_TWO:
                return isSayable(a) && isSayable(b) && isSayable(c);
            case SAY_HOLD:
                return isSayable(a);
            default:
                return false;
        }
    }

    private void putSentence(int which, int a, int b, int c, int d) {
        switch (which) {
            case SAY_ZONE:
                text.putPair("zone", a);
                text.putPair("needs", b);
                text.putWord("of");
                for (int k = 0; k < d; k++) {
                    text.putNumber(c + k);
                }
                break;
            case SAY_ACT:
                text.putPair("act", a);
                text.putPair("kind", b);
                text.putPair("rank", c);
                text.putPair("delay", d);
                break;
            case SAY_ROW:
                text.putPair("when", a);
                text.putPair("does", b);
                break;
            case SAY_ROW_OF_TWO:
                text.putPair("when", a);
                text.putPair("&", b);
                text.putPair("does", c);
                break;
            default:
                text.putPair("hold", a);
                break;
        }
        text.putWord(";");
    }

    /** The characters of the text. */
    private static final class Text {
        private static final int MOST_DIGITS = 10;

        private final char[] characters = new char[MOST_CHARACTERS];
        private final char[] digits = new char[MOST_DIGITS];
        private int length = 0;

        int size() {
            return length;
        }

        char at(int place) {
            return place >= 0 && place < characters.length ? characters[place] : 0;
        }

        void shrinkTo(int size) {
            length = size;
        }

        // What does not fit is counted all the same, so that who writes a sentence sees by the size that it was too long.
        void put(char c) {
            if (length < characters.length) {
                characters[length] = c;
            }
            length++;
        }

        void putPair(String word, int number) {
            putWord(word);
            putNumber(number);
        }

        void putWord(String word) {
            for (int k = 0; k < word.length(); k++) {
                put(word.charAt(k));
            }
            put(' ');
        }

        void putNumber(int number) {
            int rest = number;
            int first = MOST_DIGITS;
            do {
                first--;
                digits[first] = (char) ('0' + rest % 10);
                rest /= 10;
            } while (rest > 0 && first > 0);
            for (int k = first; k < MOST_DIGITS; k++) {
                put(digits[k]);
            }
            put(' ');
        }
    }

    /** Goes through a text word by word; behind the last one stands an empty word. */
    private static final class Words {
        private static final int GAP = 0;
        private static final int LETTER = 1;
        private static final int DIGIT = 2;
        private static final int ALONE = 3;
        private static final int MOST_READ_DIGITS = 6;

        private final Text text;
        private int begin = 0;
        private int end = 0;
        private int number = NONE;

        Words(Text text) {
            this.text = text;
        }

        int number() {
            return number;
        }

        boolean isBehindLast() {
            return begin >= text.size();
        }

        void step() {
            int size = text.size();
            int at = end;
            while (at < size && kindOf(text.at(at)) == GAP) {
                at++;
            }
            begin = at;
            if (at < size) {
                int kind = kindOf(text.at(at));
                at++;
                while (at < size && kind != ALONE && kindOf(text.at(at)) == kind) {
                    at++;
                }
            }
            end = at;
            number++;
        }

        boolean is(String word) {
            if (end - begin != word.length()) {
                return false;
            }
            for (int k = 0; k < word.length(); k++) {
                if (text.at(begin + k) != word.charAt(k)) {
                    return false;
                }
            }
            return true;
        }

        boolean stepTo(String word) {
            step();
            return is(word);
        }

        /** NONE if the word is not a number within the bounds. */
        int valueWithin(int least, int greatest) {
            int digits = end - begin;
            if (digits < 1 || digits > MOST_READ_DIGITS || kindOf(text.at(begin)) != DIGIT) {
                return NONE;
            }
            int value = 0;
            for (int k = begin; k < end; k++) {
                value = value * 10 + (text.at(k) - '0');
            }
            return isWithin(value, least, greatest) ? value : NONE;
        }

        int stepToValue(int least, int greatest) {
            step();
            return valueWithin(least, greatest);
        }

        private static int kindOf(char c) {
            if (c == ' ' || c == '\n') {
                return GAP;
            }
            if (c >= 'a' && c <= 'z') {
                return LETTER;
            }
            return c >= '0' && c <= '9' ? DIGIT : ALONE;
        }
    }

    /** Reads a text into a plan; every sentence's method answers the number of its wrong word, or NONE. */
    private static final class Reader {
        private final Words words;
        private final Plan plan;
        private final int pointCount;

        Reader(Text text, Plan plan, int pointCount) {
            this.words = new Words(text);
            this.plan = plan;
            this.pointCount = pointCount;
        }

        int findWrongWord() {
            plan.clear();
            // A sentence has at least one character, so there are never more sentences than that.
            for (int k = 0; k <= MOST_CHARACTERS; k++) {
                words.step();
                if (words.isBehindLast()) {
                    return NONE;
                }
                int wrong = readSentence();
                if (wrong != NONE) {
                    return wrong;
                }
            }
            return NONE;
        }

        private int readSentence() {
            if (words.is("zone")) {
                return readZone();
            }
            if (words.is("act")) {
                return readAct();
            }
            if (words.is("when")) {
                return readRow();
            }
            return words.is("hold") ? readHold() : words.number();
        }

        private int readZone() {
            int zone = words.stepToValue(0, ZONES - 1);
            if (zone == NONE || plan.zones().isTold(zone) || !words.stepTo("needs")) {
                return words.number();
            }
            int needs = words.stepToValue(1, MOST_ZONE_POINTS);
            int needsNumber = words.number();
            if (needs == NONE || !words.stepTo("of") || !readPoints(zone)) {
                return words.number();
            }
            if (needs > plan.zones().sizeOf(zone)) {
                return needsNumber;
            }
            plan.zones().tell(zone, needs);
            return NONE;
        }

        private boolean readPoints(int zone) {
            Zones zones = plan.zones();
            for (int k = 0; k < MOST_ZONE_POINTS; k++) {
                words.step();
                if (k > 0 && words.is(";")) {
                    return true;
                }
                int point = words.valueWithin(0, pointCount - 1);
                if (point == NONE || zones.hasPoint(zone, point)) {
                    return false;
                }
                zones.addPoint(zone, point);
            }
            return words.stepTo(";");
        }

        private int readAct() {
            int act = words.stepToValue(0, ACTS - 1);
            if (act == NONE || plan.acts().isTold(act) || !words.stepTo("kind")) {
                return words.number();
            }
            int kind = words.stepToValue(0, 5);
            if (kind == NONE || !words.stepTo("rank")) {
                return words.number();
            }
            int rank = words.stepToValue(0, 99);
            if (rank == NONE || !words.stepTo("delay")) {
                return words.number();
            }
            int delay = words.stepToValue(0, 600);
            if (delay == NONE || !words.stepTo(";")) {
                return words.number();
            }
            plan.acts().tell(act, kind, rank, delay);
            return NONE;
        }

        private int readRow() {
            if (plan.rowCount() >= MOST_ROWS) {
                return words.number();
            }
            int first = stepToToldZone();
            if (first == NONE) {
                return words.number();
            }
            int other = NONE;
            words.step();
            if (words.is("&")) {
                other = stepToToldZone();
                if (other == NONE || other == first) {
                    return words.number();
                }
                words.step();
            }
            if (!words.is("does")) {
                return words.number();
            }
            int act = stepToToldAct();
            if (act == NONE || !words.stepTo(";")) {
                return words.number();
            }
            plan.addRow(first, other, act);
            return NONE;
        }

        private int readHold() {
            int act = stepToToldAct();
            if (act == NONE || plan.acts().isHeld(act) || !words.stepTo(";")) {
                return words.number();
            }
            plan.acts().hold(act);
            return NONE;
        }

        private int stepToToldZone() {
            words.step();
            int zone = words.valueWithin(0, ZONES - 1);
            return plan.zones().isTold(zone) ? zone : NONE;
        }

        private int stepToToldAct() {
            words.step();
            int act = words.valueWithin(0, ACTS - 1);
            return plan.acts().isTold(act) ? act : NONE;
        }
    }

    /** What a text says: zones, acts and rows. */
    private static final class Plan {
        private final Zones zones = new Zones();
        private final Acts acts = new Acts();
        private final int[] firstZones = new int[MOST_ROWS];
        private final int[] otherZones = new int[MOST_ROWS];
        private final int[] rowActs = new int[MOST_ROWS];
        private int rowCount = 0;

        Zones zones() {
            return zones;
        }

        Acts acts() {
            return acts;
        }

        int rowCount() {
            return rowCount;
        }

        void clear() {
            zones.clear();
            acts.clear();
            rowCount = 0;
        }

        void addRow(int first, int other, int act) {
            if (rowCount < MOST_ROWS) {
                firstZones[rowCount] = first;
                otherZones[rowCount] = other;
                rowActs[rowCount] = act;
                rowCount++;
            }
        }

        /** Finds which zones are on or sure, and which acts are called. */
        void look(Points points, int now) {
            zones.look(points, now);
            acts.forgetCalls();
            for (int k = 0; k < rowCount; k++) {
                if (isMet(k)) {
                    acts.call(rowActs[k], hasSureZone(k));
                }
            }
        }

        int tellOfRow(int k, int what) {
            switch (what) {
                case 0:
                    return firstZones[k];
                case 1:
                    return otherZones[k];
                case 2:
                    return rowActs[k];
                default:
                    return oneIf(isMet(k));
            }
        }

        private boolean isMet(int k) {
            int other = otherZones[k];
            return zones.isOn(firstZones[k]) && (other == NONE || zones.isOn(other));
        }

        private boolean hasSureZone(int k) {
            int other = otherZones[k];
            return zones.isSure(firstZones[k]) || (other != NONE && zones.isSure(other));
        }
    }

    /** The zones of a plan, and how many of their points were on, and could be, when they were last looked at. */
    private static final class Zones {
        private final int[] needs = new int[ZONES];
        private final int[] sizes = new int[ZONES];
        private final int[] members = new int[ZONES * MOST_ZONE_POINTS];
        private final int[] onCounts = new int[ZONES];
        private final int[] ableCounts = new int[ZONES];

        void clear() {
            Arrays.fill(needs, 0);
            Arrays.fill(sizes, 0);
        }

        // A zone needs at least one point, so 0 is free to mean that it is not told.
        boolean isTold(int zone) {
            return isWithin(zone, 0, ZONES - 1) && needs[zone] > 0;
        }

        void tell(int zone, int needed) {
            needs[zone] = needed;
        }

        int sizeOf(int zone) {
            return sizes[zone];
        }

        boolean hasPoint(int zone, int point) {
            int start = zone * MOST_ZONE_POINTS;
            for (int k = 0; k < sizes[zone]; k++) {
                if (members[start + k] == point) {
                    return true;
                }
            }
            return false;
        }

        void addPoint(int zone, int point) {
            if (sizes[zone] < MOST_ZONE_POINTS) {
                members[zone * MOST_ZONE_POINTS + sizes[zone]] = point;
                sizes[zone]++;
            }
        }

        void look(Points points, int now) {
            for (int zone = 0; zone < ZONES; zone++) {
                lookAt(zone, points, now);
            }
        }

        private void lookAt(int zone, Points points, int now) {
            int start = zone * MOST_ZONE_POINTS;
            int on = 0;
            int able = 0;
            for (int k = 0; k < sizes[zone]; k++) {
                int point = members[start + k];
                if (points.isAble(point, now)) {
                    able++;
                    on += oneIf(points.isHigh(point));
                }
            }
            onCounts[zone] = on;
            ableCounts[zone] = able;
        }

        boolean isOn(int zone) {
            return onCounts[zone] >= needs[zone];
        }

        boolean isSure(int zone) {
            return ableCounts[zone] > 0 && onCounts[zone] == ableCounts[zone];
        }

        int tellOf(int zone, int what) {
            switch (what) {
                case 0:
                    return oneIf(isOn(zone));
                case 1:
                    return oneIf(isSure(zone));
                case 2:
                    return needs[zone];
                default:
                    return onCounts[zone];
            }
        }
    }

    /** The acts of a plan, their states, and whether they were called when the plan was last looked at. */
    private static final class Acts {
        private final int[] kinds = new int[ACTS];
        private final int[] ranks = new int[ACTS];
        private final int[] delays = new int[ACTS];
        private final boolean[] told = new boolean[ACTS];
        private final boolean[] held = new boolean[ACTS];
        private final int[] order = new int[ACTS];
        private int count = 0;

        private final int[] states = new int[ACTS];
        private final int[] since = new int[ACTS];
        private final boolean[] looked = new boolean[ACTS];
        private final boolean[] confirmed = new boolean[ACTS];

        private final boolean[] called = new boolean[ACTS];
        private final boolean[] surelyCalled = new boolean[ACTS];

        void clear() {
            count = 0;
            for (int act = 0; act < ACTS; act++) {
                told[act] = false;
                held[act] = false;
                states[act] = REST;
            }
        }

        boolean isTold(int act) {
            return isWithin(act, 0, ACTS - 1) && told[act];
        }

        boolean isHeld(int act) {
            return held[act];
        }

        void hold(int act) {
            held[act] = true;
        }

        void tell(int act, int kind, int rank, int delay) {
            kinds[act] = kind;
            ranks[act] = rank;
            delays[act] = delay;
            told[act] = true;
            putInOrder(act);
        }

        private void putInOrder(int act) {
            if (count >= ACTS) {
                return;
            }
            int place = count;
            while (place > 0 && goesBefore(act, order[place - 1])) {
                order[place] = order[place - 1];
                place--;
            }
            order[place] = act;
            count++;
        }

        private boolean goesBefore(int act, int other) {
            return ranks[act] > ranks[other] || (ranks[act] == ranks[other] && act < other);
        }

        int findRanked(int place) {
            return isWithin(place, 0, count - 1) ? order[place] : NONE;
        }

        void forgetCalls() {
            for (int act = 0; act < ACTS; act++) {
                called[act] = false;
                surelyCalled[act] = false;
            }
        }

        void call(int act, boolean surely) {
            called[act] = true;
            surelyCalled[act] = surelyCalled[act] || surely;
        }

        int goOn(int now, Events events) {
            int happened = 0;
            for (int place = 0; place < count; place++) {
                int act = order[place];
                int event = called[act] ? heed(act, now) : letGo(act);
                if (event != NONE) {
                    events.add(now, act, event);
                    happened++;
                }
            }
            return happened;
        }

        private int heed(int act, int now) {
            if (states[act] == REST) {
                beginToWait(act, now);
            }
            if (states[act] != WAITING || !isDue(act, now)) {
                return NONE;
            }
            states[act] = DONE;
            return EVENT_DONE;
        }

        private void beginToWait(int act, int now) {
            states[act] = WAITING;
            since[act] = now;
            looked[act] = false;
            confirmed[act] = false;
        }

        private boolean isDue(int act, int now) {
            return now >= since[act] + delays[act] || surelyCalled[act] || confirmed[act];
        }

        private int letGo(int act) {
            if (states[act] == DONE && held[act]) {
                return NONE;
            }
            int event = states[act] == DONE ? EVENT_REST : NONE;
            states[act] = REST;
            return event;
        }

        int waitAnew(int now) {
            int changed = 0;
            for (int act = 0; act < ACTS; act++) {
                if (states[act] == WAITING && !looked[act]) {
                    looked[act] = true;
                    since[act] = now;
                    changed++;
                }
            }
            return changed;
        }

        int confirm() {
            int changed = 0;
            for (int act = 0; act < ACTS; act++) {
                if (states[act] == WAITING && !confirmed[act]) {
                    confirmed[act] = true;
                    changed++;
                }
            }
            return changed;
        }

        int release(int now, Events events) {
            int released = 0;
            for (int place = 0; place < count; place++) {
                int act = order[place];
                if (held[act] && states[act] == DONE && !called[act]) {
                    states[act] = REST;
                    events.add(now, act, EVENT_REST);
                    released++;
                }
            }
            return released;
        }

        int tellOf(int act, int what) {
            switch (what) {
                case 0:
                    return states[act];
                case 1:
                    return states[act] == WAITING ? since[act] : NONE;
                case 2:
                    return kinds[act];
                case 3:
                    return ranks[act];
                case 4:
                    return delays[act];
                default:
                    return oneIf(held[act]);
            }
        }
    }

    /** The points, each with all that decides whether it is on. */
    private static final class Points {
        private final int count;
        private final int[] values;
        private final int[] disabledUntil;
        private final boolean[] faulty;
        private final boolean[] inLoop;
        private final boolean[] unheard;

        Points(int count) {
            this.count = count;
            this.values = new int[count];
            this.disabledUntil = new int[count];
            this.faulty = new boolean[count];
            this.inLoop = new boolean[count];
            this.unheard = new boolean[count];
        }

        int count() {
            return count;
        }

        boolean isPoint(int point) {
            return isWithin(point, 0, count - 1);
        }

        int swapValue(int point, int value) {
            int before = values[point];
            values[point] = value;
            return before;
        }

        boolean swapFaulty(int point, boolean on) {
            boolean before = faulty[point];
            faulty[point] = on;
            return before;
        }

        int swapUntil(int point, int until) {
            int before = disabledUntil[point];
            disabledUntil[point] = until;
            return before;
        }

        boolean isInLoop(int point) {
            return inLoop[point];
        }

        void putInLoop(int point) {
            inLoop[point] = true;
        }

        // Kept with the points, as a tick asks it far more often than loops change.
        void hearThrough(Loop loop) {
            for (int place = 0; place < loop.size(); place++) {
                unheard[loop.pointAt(place)] = !loop.hears(place);
            }
        }

        int findUnheard(int k) {
            int before = 0;
            for (int point = 0; point < count; point++) {
                if (unheard[point]) {
                    if (before == k) {
                        return point;
                    }
                    before++;
                }
            }
            return NONE;
        }

        boolean isAble(int point, int now) {
            return !faulty[point] && !unheard[point] && now >= disabledUntil[point];
        }

        boolean isHigh(int point) {
            return values[point] >= ON_VALUE;
        }
    }

    /** A row of points that may be cut before each of them and behind the last. */
    private static final class Loop {
        private final int[] members = new int[MOST_LOOP_POINTS];
        private final boolean[] cuts = new boolean[MOST_LOOP_POINTS + 1];
        private int size = 0;
        // Without a cut the first one stands behind all places and the last one before them, so that all is heard.
        private int firstCut = MOST_LOOP_POINTS + 1;
        private int lastCut = NONE;

        int size() {
            return size;
        }

        boolean isFull() {
            return size >= MOST_LOOP_POINTS;
        }

        void add(int point) {
            if (size < MOST_LOOP_POINTS) {
                members[size] = point;
                size++;
            }
        }

        int pointAt(int place) {
            return members[place];
        }

        boolean swapCut(int at, boolean on) {
            boolean before = cuts[at];
            cuts[at] = on;
            findEnds();
            return before;
        }

        private void findEnds() {
            firstCut = cuts.length;
            lastCut = NONE;
            for (int at = 0; at < cuts.length; at++) {
                if (cuts[at]) {
                    firstCut = Math.min(firstCut, at);
                    lastCut = at;
                }
            }
        }

        boolean hears(int place) {
            return place < firstCut || place >= lastCut;
        }

        int countHeard() {
            int heardPoints = 0;
            for (int place = 0; place < size; place++) {
                heardPoints += oneIf(hears(place));
            }
            return heardPoints;
        }
    }

    /** The latest events; the oldest one makes room for a new one. */
    private static final class Events {
        private final int[] times = new int[KEPT_EVENTS];
        private final int[] acts = new int[KEPT_EVENTS];
        private final int[] kinds = new int[KEPT_EVENTS];
        private int next = 0;
        private int count = 0;

        int count() {
            return count;
        }

        void add(int now, int act, int kind) {
            times[next] = now;
            acts[next] = act;
            kinds[next] = kind;
            next = next + 1 < KEPT_EVENTS ? next + 1 : 0;
            count = Math.min(count + 1, KEPT_EVENTS);
        }

        int tellOf(int k, int what) {
            int place = next - 1 - k;
            if (place < 0) {
                place += KEPT_EVENTS;
            }
            switch (what) {
                case 0:
                    return times[place];
                case 1:
                    return acts[place];
                default:
                    return kinds[place];
            }
        }
    }
}
