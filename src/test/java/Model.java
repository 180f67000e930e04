import java.util.ArrayList;
import java.util.HashSet;
import java.util.List;
import java.util.Map;
import java.util.Set;
import java.util.TreeMap;
import java.util.TreeSet;
import java.util.regex.Matcher;
import java.util.regex.Pattern;

/** What the document says, written as plainly as can be: everything is worked out anew from what was told. */
final class Model {
    private static final Pattern WORD = Pattern.compile("[a-z]+|[0-9]+|[^ \n]");

    private record Zone(int needs, List<Integer> points) {
    }

    private record Row(int first, int other, int act) {
        List<Integer> zones() {
            return other == -1 ? List.of(first) : List.of(first, other);
        }
    }

    private record Event(int time, int act, int done) {
    }

    private static final class Act {
        int kind;
        int rank;
        int delay;
        boolean latches;
        int state;
        int since;
        boolean looked;
        boolean confirmed;
    }

    private static final class Wrong extends Exception {
        private static final long serialVersionUID = 1L;
        final int word;

        Wrong(int word) {
            this.word = word;
        }
    }

    private final int points;
    private final int[] values;
    private final int[] until;
    private final boolean[] faulty;
    private final List<List<Integer>> loops = new ArrayList<>();
    private final List<TreeSet<Integer>> cuts = new ArrayList<>();
    private final List<Event> events = new ArrayList<>();
    private String text = "";
    private int time = 0;

    private Map<Integer, Zone> zones = new TreeMap<>();
    private Map<Integer, Act> acts = new TreeMap<>();
    private List<Row> rows = new ArrayList<>();

    // What is being read.
    private List<String> words;
    private int at;
    private Map<Integer, Zone> newZones;
    private Map<Integer, Act> newActs;
    private List<Row> newRows;

    Model(int points) {
        this.points = Math.min(200, Math.max(1, points));
        this.values = new int[this.points];
        this.until = new int[this.points];
        this.faulty = new boolean[this.points];
        for (int k = 0; k < 8; k++) {
            loops.add(new ArrayList<>());
            cuts.add(new TreeSet<>());
        }
    }

    private static void argument(boolean right) {
        if (!right) {
            throw new IllegalArgumentException();
        }
    }

    private static void state(boolean right) {
        if (!right) {
            throw new IllegalStateException();
        }
    }

    private void point(int point) {
        argument(point >= 0 && point < points);
    }

    private static void loopNumber(int loop) {
        argument(loop >= 0 && loop < 8);
    }

    private static int bit(boolean yes) {
        return yes ? 1 : 0;
    }

    int answer(String call, int[] n) {
        switch (call) {
            case "unit": return unit(n[0]);
            case "say": return say(n[0], n[1], n[2], n[3], n[4]);
            case "cutText": return cutText(n[0]);
            case "read": return read();
            case "signal": return signal(n[0], n[1]);
            case "fault": return fault(n[0], n[1] != 0);
            case "disable": return disable(n[0], n[1]);
            case "loop": return loop(n[0], n[1]);
            case "cut": return cut(n[0], n[1], n[2] != 0);
            case "heard": return heard(n[0]);
            case "unreachable": return unreachable(n[0]);
            case "ticks": return ticks(n[0]);
            case "person": return person(n[0]);
            case "reset": return reset();
            case "act": return act(n[0], n[1]);
            case "zone": return zone(n[0], n[1]);
            case "row": return row(n[0], n[1]);
            case "event": return event(n[0], n[1]);
            case "ranked": return ranked(n[0]);
            default: return time;
        }
    }

    private int unit(int c) {
        argument(c >= 0 && c <= 127);
        return write(String.valueOf((char) c));
    }

    private int write(String more) {
        state(text.length() + more.length() <= 2000);
        text += more;
        return text.length();
    }

    private int say(int which, int a, int b, int c, int d) {
        String[] forms = {"zone %d needs %d of %d", "act %d kind %d rank %d delay %d", "when %d does %d",
            "when %d & %d does %d", "hold %d"};
        int[] saidNumbers = {3, 4, 2, 3, 1};
        argument(which >= 0 && which <= 4);
        int[] all = {a, b, c, d};
        for (int k = 0; k < saidNumbers[which]; k++) {
            argument(all[k] >= 0 && all[k] <= 9999);
        }
        argument(which != 0 || (d >= 1 && d <= 12));
        StringBuilder sentence = new StringBuilder(String.format(forms[which], a, b, c, d));
        for (int k = 1; which == 0 && k < d; k++) {
            sentence.append(' ').append(c + k);
        }
        return write(sentence + " ; ");
    }

    private int cutText(int n) {
        argument(n >= 0 && n <= text.length());
        text = text.substring(0, text.length() - n);
        return text.length();
    }

    private int read() {
        words = new ArrayList<>();
        Matcher m = WORD.matcher(text);
        while (m.find()) {
            words.add(m.group());
        }
        at = 0;
        newZones = new TreeMap<>();
        newActs = new TreeMap<>();
        newRows = new ArrayList<>();
        try {
            while (at < words.size()) {
                sentence();
            }
        } catch (Wrong w) {
            return -1 - w.word;
        }
        zones = newZones;
        acts = newActs;
        rows = newRows;
        return rows.size();
    }

    private String peek() {
        return at < words.size() ? words.get(at) : "";
    }

    private void must(boolean right) throws Wrong {
        if (!right) {
            throw new Wrong(at);
        }
        at++;
    }

    private void word(String word) throws Wrong {
        must(peek().equals(word));
    }

    private int number(int least, int greatest, Set<Integer> among, boolean in) throws Wrong {
        boolean isNumber = peek().matches("[0-9]{1,6}");
        int value = isNumber ? Integer.parseInt(peek()) : -1;
        must(isNumber && value >= least && value <= greatest && (among == null || among.contains(value) == in));
        return value;
    }

    private void sentence() throws Wrong {
        switch (peek()) {
            case "zone": readZone(); break;
            case "act": readAct(); break;
            case "when": readRow(); break;
            default:
                word("hold");
                int act = number(0, 19, newActs.keySet(), true);
                if (newActs.get(act).latches) {
                    throw new Wrong(at - 1);
                }
                word(";");
                newActs.get(act).latches = true;
        }
    }

    private void readZone() throws Wrong {
        at++;
        int zone = number(0, 19, newZones.keySet(), false);
        word("needs");
        int needsAt = at;
        int needs = number(1, 12, null, true);
        word("of");
        List<Integer> members = new ArrayList<>();
        do {
            members.add(number(0, points - 1, new HashSet<>(members), false));
        } while (members.size() < 12 && !peek().equals(";"));
        word(";");
        if (needs > members.size()) {
            throw new Wrong(needsAt);
        }
        newZones.put(zone, new Zone(needs, members));
    }

    private void readAct() throws Wrong {
        at++;
        int number = number(0, 19, newActs.keySet(), false);
        Act act = new Act();
        word("kind");
        act.kind = number(0, 5, null, true);
        word("rank");
        act.rank = number(0, 99, null, true);
        word("delay");
        act.delay = number(0, 600, null, true);
        word(";");
        newActs.put(number, act);
    }

    private void readRow() throws Wrong {
        must(newRows.size() < 50);
        int first = number(0, 19, newZones.keySet(), true);
        int other = -1;
        if (peek().equals("&")) {
            at++;
            Set<Integer> others = new HashSet<>(newZones.keySet());
            others.remove(first);
            other = number(0, 19, others, true);
        }
        word("does");
        int act = number(0, 19, newActs.keySet(), true);
        word(";");
        newRows.add(new Row(first, other, act));
    }

    private int signal(int point, int v) {
        point(point);
        argument(v >= 0 && v <= 100);
        int before = values[point];
        values[point] = v;
        return before;
    }

    private int fault(int point, boolean on) {
        point(point);
        boolean before = faulty[point];
        faulty[point] = on;
        return bit(before);
    }

    private int disable(int point, int second) {
        point(point);
        argument(second >= 0 && second <= 1000000);
        int before = until[point];
        until[point] = second;
        return before;
    }

    private int loop(int loop, int point) {
        loopNumber(loop);
        point(point);
        for (List<Integer> row : loops) {
            state(!row.contains(point));
        }
        state(loops.get(loop).size() < 40);
        loops.get(loop).add(point);
        return loops.get(loop).size();
    }

    private int cut(int loop, int place, boolean on) {
        loopNumber(loop);
        argument(place >= 0 && place <= loops.get(loop).size());
        return bit(on ? !cuts.get(loop).add(place) : cuts.get(loop).remove(place));
    }

    private boolean isHeard(int point) {
        for (int k = 0; k < 8; k++) {
            int place = loops.get(k).indexOf(point);
            if (place >= 0) {
                // Unheard is what has a cut on both its sides.
                return cuts.get(k).headSet(place, true).isEmpty() || cuts.get(k).tailSet(place + 1, true).isEmpty();
            }
        }
        return true;
    }

    private int heard(int loop) {
        loopNumber(loop);
        return (int) loops.get(loop).stream().filter(this::isHeard).count();
    }

    private int unreachable(int k) {
        argument(k >= 0);
        List<Integer> silent = new ArrayList<>();
        for (int point = 0; point < points; point++) {
            if (!isHeard(point)) {
                silent.add(point);
            }
        }
        return k < silent.size() ? silent.get(k) : -1;
    }

    private boolean counts(int point) {
        return !faulty[point] && isHeard(point) && until[point] <= time;
    }

    private int onPoints(int zone) {
        return (int) zones.get(zone).points().stream().filter(p -> counts(p) && values[p] >= 50).count();
    }

    private boolean isOn(int zone) {
        return onPoints(zone) >= zones.get(zone).needs();
    }

    private boolean isSure(int zone) {
        List<Integer> counting = zones.get(zone).points().stream().filter(this::counts).toList();
        return !counting.isEmpty() && counting.stream().allMatch(p -> values[p] >= 50);
    }

    private boolean isMet(Row row) {
        return row.zones().stream().allMatch(this::isOn);
    }

    private boolean isCalled(int act) {
        return rows.stream().anyMatch(r -> r.act() == act && isMet(r));
    }

    private boolean isCalledSurely(int act) {
        return rows.stream().anyMatch(r -> r.act() == act && isMet(r) && r.zones().stream().anyMatch(this::isSure));
    }

    private List<Integer> byRank() {
        List<Integer> order = new ArrayList<>(acts.keySet());
        order.sort((a, b) -> acts.get(a).rank != acts.get(b).rank ? acts.get(b).rank - acts.get(a).rank : a - b);
        return order;
    }

    private void happens(int act, int done) {
        acts.get(act).state = done == 1 ? 2 : 0;
        events.add(new Event(time, act, done));
    }

    private int ticks(int n) {
        argument(n >= 1 && n <= 200);
        state(time + n <= 20000);
        int before = events.size();
        for (int k = 0; k < n; k++) {
            time++;
            for (int number : byRank()) {
                tick(number, acts.get(number));
            }
        }
        return events.size() - before;
    }

    private void tick(int number, Act act) {
        boolean called = isCalled(number);
        if (called && act.state == 0) {
            act.state = 1;
            act.since = time;
            act.looked = false;
            act.confirmed = false;
        }
        if (!called && act.state == 1) {
            act.state = 0;
        }
        if (called && act.state == 1 && (time - act.since >= act.delay || act.confirmed || isCalledSurely(number))) {
            happens(number, 1);
        }
        if (!called && act.state == 2 && !act.latches) {
            happens(number, 0);
        }
    }

    private int person(int what) {
        argument(what == 0 || what == 1);
        int changed = 0;
        for (Act act : acts.values()) {
            if (act.state == 1 && what == 0 && !act.looked) {
                act.looked = true;
                act.since = time;
                changed++;
            }
            if (act.state == 1 && what == 1 && !act.confirmed) {
                act.confirmed = true;
                changed++;
            }
        }
        return changed;
    }

    private int reset() {
        int before = events.size();
        for (int number : byRank()) {
            if (acts.get(number).latches && acts.get(number).state == 2 && !isCalled(number)) {
                happens(number, 0);
            }
        }
        return events.size() - before;
    }

    private int act(int number, int what) {
        argument(acts.containsKey(number) && what >= 0 && what <= 5);
        Act act = acts.get(number);
        int since = act.state == 1 ? act.since : -1;
        return new int[] {act.state, since, act.kind, act.rank, act.delay, bit(act.latches)}[what];
    }

    private int zone(int zone, int what) {
        argument(zones.containsKey(zone) && what >= 0 && what <= 3);
        return new int[] {bit(isOn(zone)), bit(isSure(zone)), zones.get(zone).needs(), onPoints(zone)}[what];
    }

    private int row(int k, int what) {
        argument(k >= 0 && k < rows.size() && what >= 0 && what <= 3);
        Row row = rows.get(k);
        return new int[] {row.first(), row.other(), row.act(), bit(isMet(row))}[what];
    }

    private int event(int k, int what) {
        argument(k >= 0 && k < Math.min(60, events.size()) && what >= 0 && what <= 2);
        Event event = events.get(events.size() - 1 - k);
        return new int[] {event.time(), event.act(), event.done()}[what];
    }

    private int ranked(int place) {
        argument(place >= 0);
        List<Integer> order = byRank();
        return place < order.size() ? order.get(place) : -1;
    }
}
