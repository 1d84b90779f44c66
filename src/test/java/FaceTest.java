import java.io.IOException;
import java.lang.management.ManagementFactory;
import java.lang.reflect.Constructor;
import java.lang.reflect.Field;
import java.lang.reflect.Method;
import java.lang.reflect.Modifier;
import java.nio.file.Files;
import java.nio.file.Path;
import java.util.Set;
import java.util.TreeSet;
import java.util.regex.Matcher;
import java.util.regex.Pattern;

/** The public face, the rules of LANGUAGE.md that can be read off the source, and the room that calls take. */
public final class FaceTest {
    private static final Due due = new Due();
    private static final String FACE = "int lands(int, int); int set(int, int); int land(int, int, int); int say(int);"
        + " int wipe(); int fault(); int judge(int); int behind(int, int); int done(); int lit(int, int);"
        + " int covered(int); int lits(int, int, int); int next(int, int, boolean); int longest(int, int, int);"
        + " int hungry(int); int needs(int, int); int carry(int); int paced(int, int); int strike(int, int, int);"
        + " int strikes(int, int, int, int); long ways(int, int, int, int); int where(int, int, int);"
        + " int meet(int, int, int); int seen(int, int, boolean); int forget(); int laws(int); int look(int, int);"
        + " long dust(int, int, int, int); int rent(int, int, int, int); int age(int, int, int); int image(int);"
        + " int restore(int); int told(int)";

    public static void main(String[] args) throws IOException {
        methods();
        fields();
        classes();
        source(Path.of(args.length > 0 ? args[0] : "src/main/java/RingShadow.java"));
        room();
        due.end("FaceTest");
    }

    private static void methods() {
        Set<String> want = new TreeSet<>(Set.of(FACE.split("; ")));
        Set<String> got = new TreeSet<>();
        for (Method m : RingShadow.class.getDeclaredMethods()) {
            if (Modifier.isPublic(m.getModifiers())) {
                String types = "";
                for (Class<?> type : m.getParameterTypes()) {
                    types += (types.isEmpty() ? "" : ", ") + type.getName();
                }
                got.add(m.getReturnType().getName() + " " + m.getName() + "(" + types + ")");
            } else {
                due.holds(m.getName() + " is private", Modifier.isPrivate(m.getModifiers()));
                due.holds(m.getName() + " has a name of its own", !FACE.contains(" " + m.getName() + "("));
            }
        }
        due.holds("the public methods are " + got, got.equals(want));
        Constructor<?>[] made = RingShadow.class.getDeclaredConstructors();
        due.is("constructors", made.length, 1);
        due.holds("it is public", Modifier.isPublic(made[0].getModifiers()));
        due.holds("the class is public and final",
            (RingShadow.class.getModifiers() & (Modifier.PUBLIC | Modifier.FINAL)) == (Modifier.PUBLIC | Modifier.FINAL));
    }

    private static void fields() {
        int open = 0;
        for (Field f : RingShadow.class.getDeclaredFields()) {
            if (!Modifier.isPrivate(f.getModifiers())) {
                open++;
                due.holds(f.getName() + " is a constant of the document",
                    "UNKNOWN OUTSIDE STATE FULL NO NONE GONE".contains(f.getName()));
            }
            if (Modifier.isStatic(f.getModifiers())) {
                due.holds(f.getName() + " is final", Modifier.isFinal(f.getModifiers()));
            }
        }
        due.is("constants", open, 7);
        int[] values = {RingShadow.UNKNOWN, RingShadow.OUTSIDE, RingShadow.STATE, RingShadow.FULL, RingShadow.NO,
            RingShadow.NONE};
        for (int i = 0; i < values.length; i++) {
            due.is("constant " + i, values[i], -1 - i);
        }
        due.is("GONE", RingShadow.GONE, -1000000000000000000L);
    }

    private static void classes() {
        Class<?>[] inside = RingShadow.class.getDeclaredClasses();
        due.holds("at most twelve classes", inside.length < 12);
        for (Class<?> c : inside) {
            due.holds(c.getName() + " is static", Modifier.isStatic(c.getModifiers()));
            due.holds(c.getName() + " has some twenty fields at most", c.getDeclaredFields().length <= 20);
            for (Method m : c.getDeclaredMethods()) {
                due.holds(m.getName() + " takes seven at most", m.getParameterCount() <= 7);
                due.holds(c.getName() + "." + m.getName() + " has a name of its own",
                    !FACE.contains(" " + m.getName() + "("));
            }
        }
    }

    private static void source(Path path) throws IOException {
        String text = Files.readString(path);
        String code = text.replaceAll("(?s)/\\*.*?\\*/", "").replaceAll("//[^\n]*", "");
        String[] ruledOut = {"\\bthrow\\b", "\\bthrows\\b", "\\btry\\b", "\\bcatch\\b", "\\bsynchronized\\b", "\\bassert\\b",
            "\\bimport\\b", "\\bpackage\\b", "->", "::", "\\bprotected\\b", "\\bnew \\w+\\s*\\([^)]*\\)\\s*\\{", "Exact\\b",
            "\\bhashCode\\b", "\\btoString\\b", "\"", "\\bdouble\\b", "\\bfloat\\b", "\\bwhile \\(true", "for \\(;"};
        for (String word : ruledOut) {
            due.holds("no " + word, !Pattern.compile(word).matcher(code).find());
        }
        for (int i = 0; i < text.length(); i++) {
            if (text.charAt(i) > 126) {
                due.holds("no sign above 126, at " + i, false);
            }
        }
        // divisors that are no numbers, each tested against 0 in the lines ahead of it
        Set<String> tested = Set.of("lower", "other", "pace", "(2", "slits");
        Matcher divided = Pattern.compile("[/%] *(\\(?[\\w.]+)").matcher(code);
        while (divided.find()) {
            String by = divided.group(1);
            due.holds("divided by " + by, by.matches("[1-9]\\d*") || tested.contains(by));
        }
        longMethods(code);
    }

    private static void longMethods(String code) {
        String[] lines = code.split("\n");
        int start = 0;
        for (int i = 0; i < lines.length; i++) {
            if (lines[i].matches(" {4,8}(public |private |static )*\\w+(\\[\\])? ?\\w*\\(.*\\{")) {
                start = i;
            }
            due.holds("a method of sixty lines at most, line " + i,
                !lines[i].matches(" {4,8}\\}") || i - start <= 60 || !lines[start].contains("("));
        }
    }

    /** A run lives in one room of some 600,000 objects and 7.3 million elements: calls make nothing. */
    private static void room() {
        if (!(ManagementFactory.getThreadMXBean() instanceof com.sun.management.ThreadMXBean bean)) {
            return;
        }
        RingShadow x = new RingShadow();
        dearCalls(x);
        long id = Thread.currentThread().getId();
        long before = bean.getThreadAllocatedBytes(id);
        for (int i = 0; i < 40; i++) {
            dearCalls(x);
        }
        long bytes = bean.getThreadAllocatedBytes(id) - before;
        due.holds("calls make no objects: " + bytes + " bytes", bytes < 10000);
    }

    private static void dearCalls(RingShadow x) {
        x.lands(9, 4);
        x.land(0, 2, 50);
        x.set(2, 19);
        x.say(':');
        x.judge(3);
        x.behind(3, 1);
        x.done();
        x.lits(3, 5, 100000);
        x.longest(3, 5, 9999);
        x.hungry(0);
        x.needs(4, 99);
        x.carry(1);
        x.paced(3, 99);
        x.strikes(1, 2, 0, 9999);
        x.ways(4, 4, 0, 30);
        x.where(4, 0, 30);
        x.meet(0, 1, 0);
        x.seen(0, 0, true);
        x.laws(0);
        x.look(5, 0);
        x.dust(1, 3, 12, 0);
        x.rent(1, 0, 9999, 9);
        x.age(7, 99, 1);
        x.image(0);
        x.restore(0);
    }
}
