import java.lang.reflect.Constructor;
import java.lang.reflect.Field;
import java.lang.reflect.Method;
import java.lang.reflect.Modifier;
import java.util.Arrays;
import java.util.Set;
import java.util.TreeSet;

/** Promise 1, and the face that the document shows. */
final class NewObjectTest {
    public static void main(String[] args) {
        pointsAreBetween1And200();
        nothingIsThere();
        faceIsTheDocuments();
        objectsAreApart();
        Check.end();
    }

    private static void pointsAreBetween1And200() {
        lastPoint(Integer.MIN_VALUE, 0);
        lastPoint(-1, 0);
        lastPoint(0, 0);
        lastPoint(1, 0);
        lastPoint(2, 1);
        lastPoint(199, 198);
        lastPoint(200, 199);
        lastPoint(201, 199);
        lastPoint(Integer.MAX_VALUE, 199);
    }

    private static void lastPoint(int points, int last) {
        AlarmMatrix x = new AlarmMatrix(points);
        Check.due("last of " + points, 0, () -> x.signal(last, 7));
        Check.badArgument("behind the last of " + points, () -> x.signal(last + 1, 7));
    }

    private static void nothingIsThere() {
        AlarmMatrix x = new AlarmMatrix(200);
        Check.due("empty text", 0, () -> x.cutText(0));
        Check.badArgument("nothing to cut", () -> x.cutText(1));
        Check.due("nothing unheard", AlarmMatrix.NONE, () -> x.unreachable(0));
        Check.due("time", 0, () -> x.time());
        Check.due("no act is ranked", AlarmMatrix.NONE, () -> x.ranked(0));
        Check.badArgument("no row", () -> x.row(0, 0));
        Check.badArgument("no event", () -> x.event(0, 0));
        for (int k = 0; k < 20; k++) {
            int number = k;
            Check.badArgument("no zone " + k, () -> x.zone(number, 0));
            Check.badArgument("no act " + k, () -> x.act(number, 0));
        }
        for (int k = 0; k < 8; k++) {
            int number = k;
            Check.due("empty loop " + k, 0, () -> x.heard(number));
            Check.no("no cut in loop " + k, () -> x.cut(number, 0, false));
        }
        Check.due("nobody to look for", 0, () -> x.person(0));
        Check.due("nothing to reset", 0, () -> x.reset());
        Check.due("nothing happens", 0, () -> x.ticks(1));
        Check.due("the empty text is read", 0, () -> x.read());
    }

    private static void objectsAreApart() {
        AlarmMatrix x = Check.readNew(3, "zone 0 needs 1 of 0;act 0 kind 0 rank 0 delay 0;when 0 does 0;");
        AlarmMatrix y = new AlarmMatrix(3);
        x.signal(0, 80);
        x.ticks(5);
        Check.due("value of the other object", 0, () -> y.signal(0, 0));
        Check.due("time of the other object", 0, () -> y.time());
        Check.due("text of the other object", 0, () -> y.cutText(0));
        Check.badArgument("events of the other object", () -> y.event(0, 0));
    }

    private static void faceIsTheDocuments() {
        Set<String> want = new TreeSet<>(Arrays.asList(
            "int act(int, int)", "boolean cut(int, int, boolean)", "int cutText(int)", "int disable(int, int)",
            "int event(int, int)", "boolean fault(int, boolean)", "int heard(int)", "int loop(int, int)",
            "int person(int)", "int ranked(int)", "int read()", "int reset()", "int row(int, int)",
            "int say(int, int, int, int, int)", "int signal(int, int)", "int ticks(int)", "int time()",
            "int unit(int)", "int unreachable(int)", "int zone(int, int)"));
        Set<String> got = new TreeSet<>();
        for (Method m : AlarmMatrix.class.getDeclaredMethods()) {
            if (!Modifier.isPrivate(m.getModifiers())) {
                String parameters = Arrays.toString(m.getParameterTypes()).replace("[", "(").replace("]", ")");
                got.add(m.getReturnType() + " " + m.getName() + parameters);
            }
        }
        Check.same("methods", got.toString(), want.toString());
        Set<String> fields = new TreeSet<>();
        for (Field f : AlarmMatrix.class.getDeclaredFields()) {
            if (!Modifier.isPrivate(f.getModifiers())) {
                fields.add(f.toString());
            }
        }
        Check.same("fields", fields.toString(), "[public static final int AlarmMatrix.NONE]");
        Constructor<?>[] constructors = AlarmMatrix.class.getDeclaredConstructors();
        Check.same("constructors", Arrays.toString(constructors), "[public AlarmMatrix(int)]");
        Check.due("NONE", -1, () -> AlarmMatrix.NONE);
    }
}
