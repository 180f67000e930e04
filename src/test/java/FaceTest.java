import java.io.IOException;
import java.io.UncheckedIOException;
import java.lang.reflect.Executable;
import java.lang.reflect.Field;
import java.lang.reflect.Method;
import java.lang.reflect.Modifier;
import java.nio.file.Files;
import java.nio.file.Path;
import java.util.ArrayList;
import java.util.Arrays;
import java.util.List;
import java.util.Set;
import java.util.TreeSet;
import java.util.regex.Matcher;
import java.util.regex.Pattern;

/** The face that the document shows, and those rules of LANGUAGE.md that can be seen without reading a method. */
final class FaceTest {
    private static final String ARGUMENT = " throws java.lang.IllegalArgumentException";
    private static final String BOTH = ARGUMENT + ",java.lang.IllegalStateException";

    public static void main(String[] args) {
        Check.sentence("The public face", "public final class AlarmMatrix", FaceTest::classIsPublicAndFinal);
        Check.sentence("The public face", "its calls, and what they throw", FaceTest::calls);
        Check.sentence("The public face", "the constructor", FaceTest::constructor);
        Check.sentence("The public face", "NONE = -1", FaceTest::constants);
        Check.sentence("LANGUAGE.md, rule 1", "no private method bears the name of a public one", FaceTest::names);
        Check.sentence("LANGUAGE.md, rules 1 and 11", "the classes inside", FaceTest::classesInside);
        Check.sentence("LANGUAGE.md, rule 5", "static fields are final: constants", FaceTest::staticFields);
        Check.sentence("LANGUAGE.md, rule 11", "parameters, and fields of a class", FaceTest::sizes);
        Check.sentence("LANGUAGE.md, rules 2, 4 and 6", "words that do not stand in it", FaceTest::wordsThatAreRuledOut);
        Check.sentence("LANGUAGE.md, rule 6", "throw new E(\"a written text\")", FaceTest::whatIsThrown);
        Check.end();
    }

    private static void classIsPublicAndFinal() {
        Check.same("the class", Modifier.toString(AlarmMatrix.class.getModifiers()), "public final");
        Check.same("its package", AlarmMatrix.class.getPackageName(), "");
    }

    private static Set<String> face() {
        return new TreeSet<>(Arrays.asList(
            "int AlarmMatrix.unit(int)" + BOTH,
            "int AlarmMatrix.say(int,int,int,int,int)" + BOTH,
            "int AlarmMatrix.cutText(int)" + ARGUMENT,
            "int AlarmMatrix.read()",
            "int AlarmMatrix.signal(int,int)" + ARGUMENT,
            "boolean AlarmMatrix.fault(int,boolean)" + ARGUMENT,
            "int AlarmMatrix.disable(int,int)" + ARGUMENT,
            "int AlarmMatrix.loop(int,int)" + BOTH,
            "boolean AlarmMatrix.cut(int,int,boolean)" + ARGUMENT,
            "int AlarmMatrix.heard(int)" + ARGUMENT,
            "int AlarmMatrix.unreachable(int)" + ARGUMENT,
            "int AlarmMatrix.ticks(int)" + BOTH,
            "int AlarmMatrix.person(int)" + ARGUMENT,
            "int AlarmMatrix.reset()",
            "int AlarmMatrix.act(int,int)" + ARGUMENT,
            "int AlarmMatrix.zone(int,int)" + ARGUMENT,
            "int AlarmMatrix.row(int,int)" + ARGUMENT,
            "int AlarmMatrix.event(int,int)" + ARGUMENT,
            "int AlarmMatrix.ranked(int)" + ARGUMENT,
            "int AlarmMatrix.time()"));
    }

    private static void calls() {
        Set<String> want = new TreeSet<>();
        for (String call : face()) {
            want.add("public " + call);
        }
        Set<String> got = new TreeSet<>();
        for (Method m : AlarmMatrix.class.getDeclaredMethods()) {
            if (!Modifier.isPrivate(m.getModifiers())) {
                got.add(m.toString());
            }
        }
        Check.same("methods", got.toString(), want.toString());
    }

    private static void constructor() {
        String constructors = Arrays.toString(AlarmMatrix.class.getDeclaredConstructors());
        Check.same("constructors", constructors, "[public AlarmMatrix(int)]");
    }

    private static void constants() {
        Set<String> fields = new TreeSet<>();
        for (Field f : AlarmMatrix.class.getDeclaredFields()) {
            if (!Modifier.isPrivate(f.getModifiers())) {
                fields.add(f.toString());
            }
        }
        Check.same("fields", fields.toString(), "[public static final int AlarmMatrix.NONE]");
        Check.due("NONE", -1, () -> AlarmMatrix.NONE);
    }

    private static List<Class<?>> allClasses() {
        List<Class<?>> all = new ArrayList<>(Arrays.asList(AlarmMatrix.class.getDeclaredClasses()));
        all.add(AlarmMatrix.class);
        return all;
    }

    private static void names() {
        Set<String> taken = new TreeSet<>();
        for (Method m : AlarmMatrix.class.getDeclaredMethods()) {
            if (Modifier.isPublic(m.getModifiers())) {
                taken.add(m.getName());
            }
        }
        for (Class<?> c : allClasses()) {
            for (Method m : c.getDeclaredMethods()) {
                boolean isOfTheFace = c == AlarmMatrix.class && Modifier.isPublic(m.getModifiers());
                Check.no("a name that is taken: " + m, () -> !isOfTheFace && taken.contains(m.getName()));
            }
        }
    }

    private static void classesInside() {
        for (Class<?> c : AlarmMatrix.class.getDeclaredClasses()) {
            int bits = c.getModifiers();
            Check.yes("static: " + c, () -> Modifier.isStatic(bits));
            Check.no("public or protected: " + c, () -> Modifier.isPublic(bits) || Modifier.isProtected(bits));
        }
        Check.yes("at most twelve classes", () -> allClasses().size() <= 12);
    }

    private static void staticFields() {
        for (Class<?> c : allClasses()) {
            for (Field f : c.getDeclaredFields()) {
                if (Modifier.isStatic(f.getModifiers())) {
                    Check.yes("final: " + f, () -> Modifier.isFinal(f.getModifiers()));
                    Check.same("type of " + f, f.getType().getSimpleName(), "int");
                }
            }
        }
    }

    private static void sizes() {
        for (Class<?> c : allClasses()) {
            List<Executable> bodies = new ArrayList<>(Arrays.asList(c.getDeclaredMethods()));
            bodies.addAll(Arrays.asList(c.getDeclaredConstructors()));
            for (Executable e : bodies) {
                Check.yes("at most seven parameters: " + e, () -> e.getParameterCount() <= 7);
            }
            long fields = Arrays.stream(c.getDeclaredFields()).filter(f -> !Modifier.isStatic(f.getModifiers())).count();
            Check.yes("at most twenty fields: " + c, () -> fields <= 20);
        }
    }

    /** The source without its comments, and with nothing in its texts. */
    private static String source() {
        try {
            String all = Files.readString(Path.of("src/main/java/AlarmMatrix.java"));
            return all.replaceAll("(?s)/\\*.*?\\*/", "").replaceAll("//[^\\n]*", "").replaceAll("\"[^\"\\n]*\"", "\"\"");
        } catch (IOException e) {
            throw new UncheckedIOException(e);
        }
    }

    private static List<String> allOf(String pattern) {
        List<String> found = new ArrayList<>();
        Matcher m = Pattern.compile(pattern).matcher(source());
        while (m.find()) {
            found.add(m.group());
        }
        return found;
    }

    private static void wordsThatAreRuledOut() {
        Check.same("imports", allOf("import [^;]*;").toString(), "[import java.util.Arrays;]");
        String words = "\\b(try|catch|finally|synchronized|assert|instanceof|System|Thread|Object|\\w+Exact|package)\\b";
        Check.same("words", allOf(words).toString(), "[]");
        Check.same("lambdas and method references", allOf("->|::").toString(), "[]");
    }

    private static void whatIsThrown() {
        Set<String> thrown = new TreeSet<>(allOf("throw\\b[^;]*;"));
        String want = "[throw new IllegalArgumentException(\"\");, throw new IllegalStateException(\"\");]";
        Check.same("throws", thrown.toString(), want);
    }
}
