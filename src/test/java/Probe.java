import java.util.ArrayList;
import java.util.List;
import java.util.function.Supplier;

/** Finds out all that an object holds, by calls that may change it; the object is of no use behind that. */
final class Probe {
    private interface Asking {
        long of(AlarmMatrix x);
    }

    private record Question(String call, Asking asking) {
        String outcome(AlarmMatrix x) {
            return Check.outcome(() -> asking.of(x));
        }
    }

    private interface Telling {
        long of(AlarmMatrix x, int what);
    }

    private final List<Question> questions = new ArrayList<>();

    private Probe() {
    }

    static Probe inOrder() {
        Probe probe = new Probe();
        probe.askWhatIsTold();
        probe.askWhatHappens();
        probe.askPointsAndLoops();
        probe.askText();
        return probe;
    }

    /**
     * Asks last what objects like those that will be asked refuse: if a refused call changed something, asking it early
     * would change both of the objects that are to be told apart. For the same reason a new scout comes behind each.
     */
    static Probe refusedLast(Supplier<AlarmMatrix> make) {
        Probe probe = new Probe();
        List<Question> refused = new ArrayList<>();
        AlarmMatrix scout = make.get();
        for (Question question : inOrder().questions) {
            if (question.outcome(scout).startsWith("Illegal")) {
                refused.add(question);
                scout = make.get();
            } else {
                probe.questions.add(question);
            }
        }
        probe.questions.addAll(refused);
        return probe;
    }

    List<String> answersOf(AlarmMatrix x) {
        List<String> answers = new ArrayList<>();
        for (Question question : questions) {
            answers.add(question.call() + " answers " + question.outcome(x));
        }
        return answers;
    }

    private void ask(String call, Asking asking) {
        questions.add(new Question(call, asking));
    }

    private void askEach(String call, int whats, Telling telling) {
        for (int k = 0; k < whats; k++) {
            int what = k;
            ask(call + k + ")", x -> telling.of(x, what));
        }
    }

    private void askWhatIsTold() {
        ask("time()", AlarmMatrix::time);
        ask("cutText(0)", x -> x.cutText(0));
        askEach("ranked(", 5, AlarmMatrix::ranked);
        askActs();
        for (int k = 0; k < 4; k++) {
            int number = k;
            askEach("zone(" + k + ", ", 4, (x, what) -> x.zone(number, what));
            askEach("row(" + k + ", ", 4, (x, what) -> x.row(number, what));
            askEach("event(" + k + ", ", 3, (x, what) -> x.event(number, what));
        }
        ask("row(4, 0)", x -> x.row(4, 0));
        ask("event(59, 0)", x -> x.event(59, 0));
        ask("event(60, 0)", x -> x.event(60, 0));
    }

    private void askActs() {
        for (int k = 0; k < 4; k++) {
            int act = k;
            askEach("act(" + k + ", ", 6, (x, what) -> x.act(act, what));
        }
    }

    private void askWhatHappens() {
        ask("person(0)", x -> x.person(0));
        ask("person(1)", x -> x.person(1));
        ask("reset()", AlarmMatrix::reset);
        ask("ticks(1)", x -> x.ticks(1));
        askActs();
        askEach("event(0, ", 3, (x, what) -> x.event(0, what));
        ask("ticks(60)", x -> x.ticks(60));
        askEach("event(0, ", 3, (x, what) -> x.event(0, what));
    }

    private void askPointsAndLoops() {
        askEach("heard(", 8, AlarmMatrix::heard);
        askEach("unreachable(", 3, AlarmMatrix::unreachable);
        for (int k = 0; k < 6; k++) {
            int point = k;
            ask("signal(" + k + ", 0)", x -> x.signal(point, 0));
            ask("fault(" + k + ", false)", x -> x.fault(point, false) ? 1 : 0);
            ask("disable(" + k + ", 0)", x -> x.disable(point, 0));
            ask("loop(7, " + k + ")", x -> x.loop(7, point));
        }
        for (int k = 0; k < 8; k++) {
            int loop = k;
            askEach("cut(" + k + ", false, at ", 3, (x, at) -> x.cut(loop, at, false) ? 1 : 0);
        }
    }

    private void askText() {
        ask("read()", AlarmMatrix::read);
        for (int k = 0; k < 24; k++) {
            ask("cutText(1)", x -> x.cutText(1));
            ask("read()", AlarmMatrix::read);
        }
    }
}
