import java.util.Arrays;
import java.util.HashMap;
import java.util.Map;

/** All promises: long runs of calls, each answer beside the model's. */
final class ModelTest {
    private static final int RUNS = 600;
    private static final int CALLS = 512;
    private static final String CHARACTERS = "zone needs of act kind rank delay when does hold ;&0123456789 \n\t!A~";
    private static final int[] ODD = {Integer.MIN_VALUE, -2, -1, 13, 20, 101, 128, 201, 10000, 1000001, Integer.MAX_VALUE};

    private final AlarmMatrix matrix;
    private final Model model;
    private final int run;
    private final int points;
    private long seed;
    private int calls = 0;
    private boolean same = true;
    private final Map<String, Integer> outcomes;

    private ModelTest(int run, Map<String, Integer> outcomes) {
        this.run = run;
        this.seed = run * 7919L + 17;
        this.points = run % 40 == 39 ? 200 : 1 + below(24);
        this.matrix = new AlarmMatrix(points);
        this.model = new Model(points);
        this.outcomes = outcomes;
    }

    public static void main(String[] args) {
        Check.sentence("Promises 1 to 21", "all of them together, beside a model", ModelTest::runBesideTheModel);
        Check.end();
    }

    private static void runBesideTheModel() {
        Map<String, Integer> outcomes = new HashMap<>();
        for (int run = 0; run < RUNS; run++) {
            new ModelTest(run, outcomes).go();
        }
        everyCallAnsweredAndThrew(outcomes);
    }

    /** Runs that only ever throw, or never do, would show nothing. */
    private static void everyCallAnsweredAndThrew(Map<String, Integer> outcomes) {
        String[] all = {"unit", "say", "cutText", "signal", "fault", "disable", "loop", "cut", "heard", "unreachable",
            "ticks", "person", "act", "zone", "row", "event", "ranked"};
        for (String call : all) {
            seen(outcomes, call + " answers");
            seen(outcomes, call + " " + Check.ARGUMENT);
        }
        for (String call : new String[] {"unit", "say", "loop", "ticks"}) {
            seen(outcomes, call + " " + Check.STATE);
        }
    }

    private static void seen(Map<String, Integer> outcomes, String what) {
        Check.yes(what + ", in some run", () -> outcomes.containsKey(what));
    }

    private int below(int bound) {
        seed = seed * 6364136223846793005L + 1442695040888963407L;
        return (int) ((seed >>> 33) % bound);
    }

    private void call(String name, int... n) {
        if (!same || calls >= CALLS) {
            return;
        }
        calls++;
        String want = Check.outcome(() -> model.answer(name, n));
        String got = Check.outcome(() -> answer(name, n));
        same = got.equals(want);
        Check.same("run " + run + ", call " + calls + ", " + name + Arrays.toString(n), got, want);
        outcomes.merge(name + " " + (want.startsWith("Illegal") ? want : "answers"), 1, Integer::sum);
    }

    private int answer(String call, int[] n) {
        switch (call) {
            case "unit": return matrix.unit(n[0]);
            case "say": return matrix.say(n[0], n[1], n[2], n[3], n[4]);
            case "cutText": return matrix.cutText(n[0]);
            case "read": return matrix.read();
            case "signal": return matrix.signal(n[0], n[1]);
            case "fault": return matrix.fault(n[0], n[1] != 0) ? 1 : 0;
            case "disable": return matrix.disable(n[0], n[1]);
            case "loop": return matrix.loop(n[0], n[1]);
            case "cut": return matrix.cut(n[0], n[1], n[2] != 0) ? 1 : 0;
            case "heard": return matrix.heard(n[0]);
            case "unreachable": return matrix.unreachable(n[0]);
            case "ticks": return matrix.ticks(n[0]);
            case "person": return matrix.person(n[0]);
            case "reset": return matrix.reset();
            case "act": return matrix.act(n[0], n[1]);
            case "zone": return matrix.zone(n[0], n[1]);
            case "row": return matrix.row(n[0], n[1]);
            case "event": return matrix.event(n[0], n[1]);
            case "ranked": return matrix.ranked(n[0]);
            default: return matrix.time();
        }
    }

    private void go() {
        switch (run % 10) {
            case 7:
                fillText();
                break;
            case 8:
                spendTime();
                break;
            case 9:
                fillLoop();
                break;
            default:
                break;
        }
        while (same && calls < CALLS) {
            writePlan();
            int steps = 40 + below(160);
            for (int k = 0; k < steps; k++) {
                step();
            }
            if (below(4) > 0) {
                call("cutText", textSize());
            } else {
                spoilText();
            }
        }
    }

    private int textSize() {
        return model.answer("cutText", new int[] {0});
    }

    private void fillText() {
        for (int k = 0; k < 25; k++) {
            call("say", 0, below(20), 1 + below(3), 9990, 12);
        }
        for (int k = 0; k < 100; k++) {
            call("unit", ' ');
        }
        call("read");
        call("cutText", 2000);
    }

    private void spendTime() {
        for (int k = 0; k < 99 + below(2); k++) {
            call("ticks", 200);
        }
    }

    private void fillLoop() {
        int loop = below(8);
        for (int k = 0; k < 42; k++) {
            call("loop", loop, k);
        }
    }

    private void writePlan() {
        int zones = 1 + below(5);
        int acts = 1 + below(6);
        for (int k = 0; k < zones; k++) {
            int size = 1 + below(Math.min(12, points));
            int first = below(points - size + 1);
            call("say", 0, k, 1 + below(size), first, size);
        }
        for (int k = 0; k < acts; k++) {
            call("say", 1, k, below(6), below(3), below(3) == 0 ? 0 : below(12));
        }
        int rows = below(5) == 0 ? 49 + below(3) : 1 + below(9);
        for (int k = 0; k < rows; k++) {
            int first = below(zones);
            boolean two = zones > 1 && below(3) == 0;
            if (two) {
                call("say", 3, first, (first + 1 + below(zones - 1)) % zones, below(acts), 0);
            } else {
                call("say", 2, first, below(acts), 0, 0);
            }
        }
        for (int k = 0; k < acts; k++) {
            if (below(3) == 0) {
                call("say", 4, k, 0, 0, 0);
            }
        }
        call("read");
    }

    /** Wrong texts: ends cut off, characters and sentences that may not fit behind. */
    private void spoilText() {
        for (int k = 0; k < 12; k++) {
            switch (below(3)) {
                case 0:
                    call("cutText", Math.min(textSize(), below(9)));
                    break;
                case 1:
                    call("unit", CHARACTERS.charAt(below(CHARACTERS.length())));
                    break;
                default:
                    call("say", below(5), below(8), below(8), below(points), 1 + below(3));
                    break;
            }
            call("read");
        }
        call("cutText", textSize());
    }

    private int odd(int usual) {
        return below(25) == 0 ? ODD[below(ODD.length)] : usual;
    }

    private int somePoint() {
        return odd(below(Math.min(points, 24)));
    }

    private void step() {
        switch (below(14)) {
            case 0: case 1: case 2:
                call("signal", somePoint(), odd(below(3) == 0 ? below(101) : below(2) * 51 + 49));
                break;
            case 3:
                call("fault", somePoint(), below(3) == 0 ? 1 : 0);
                break;
            case 4:
                call("disable", somePoint(), odd(below(3) == 0 ? 0 : model.answer("time", new int[0]) + below(9)));
                break;
            case 5:
                call(below(2) == 0 ? "loop" : "heard", odd(below(8)), somePoint());
                break;
            case 6:
                call("cut", odd(below(8)), odd(below(5)), below(2));
                call("unreachable", odd(below(4)));
                break;
            case 7: case 8:
                call("ticks", odd(below(30) == 0 ? 200 : 1 + below(4)));
                break;
            case 9:
                call("person", odd(below(2)));
                break;
            case 10:
                call("reset");
                break;
            default:
                ask();
                break;
        }
    }

    private void ask() {
        switch (below(7)) {
            case 0:
                call("act", odd(below(6)), odd(below(6)));
                break;
            case 1:
                call("zone", odd(below(5)), odd(below(4)));
                break;
            case 2:
                call("row", odd(below(9)), odd(below(4)));
                break;
            case 3:
                call("event", odd(below(5) == 0 ? below(64) : below(8)), odd(below(3)));
                break;
            case 4:
                call("ranked", odd(below(7)));
                break;
            case 5:
                call("time");
                break;
            default:
                call(below(2) == 0 ? "unit" : "cutText", ODD[below(ODD.length)]);
                call("say", odd(below(5)), odd(1), odd(1), odd(1), odd(1));
                call("cutText", 0);
                break;
        }
    }
}
