import java.lang.reflect.Constructor;
import java.lang.reflect.Field;
import java.lang.reflect.Member;
import java.lang.reflect.Method;
import java.lang.reflect.Modifier;
import java.util.ArrayList;
import java.util.Arrays;
import java.util.Collections;
import java.util.List;

/** The public face is the document's and no more, and what a run makes stays small. */
public final class FaceTest {
    private static final Checks CHECKS = new Checks();
    private static final String INDEX = "IndexOutOfBoundsException";
    private static final String ARGUMENT = "IllegalArgumentException";
    private static final String STATE = "IllegalStateException";

    public static void main(String[] args) throws ReflectiveOperationException {
        face();
        constant();
        onlyTheFaceIsSeen();
        room();
        CHECKS.close();
    }

    private static String line(String result, String name, int arguments, String... exceptions) {
        return result + " " + name + " " + arguments + " " + String.join(" ", exceptions);
    }

    private static void face() {
        List<String> due = new ArrayList<>(List.of(
            line("int", "join", 3, INDEX, ARGUMENT, STATE), line("int", "leave", 2, INDEX),
            line("int", "grow", 3, INDEX, ARGUMENT), line("int", "swap", 4, INDEX),
            line("int", "cross", 3, INDEX, STATE), line("int", "turn", 1, INDEX),
            line("int", "sort", 2, INDEX, ARGUMENT), line("int", "set", 2, INDEX, ARGUMENT),
            line("int", "append", 1, ARGUMENT, STATE), line("int", "clearBuffer", 0), line("int", "firstError", 0),
            line("int", "chant", 0, ARGUMENT), line("int", "written", 2, INDEX, ARGUMENT),
            line("int", "undo", 0, STATE), line("int", "keep", 0), line("int", "restore", 0, STATE),
            line("int", "singer", 3, INDEX, ARGUMENT), line("int", "row", 2, INDEX, ARGUMENT),
            line("int", "find", 1, ARGUMENT), line("int", "count", 1, ARGUMENT), line("int", "ifSwapped", 4, INDEX),
            line("int", "bestSwap", 1, INDEX), line("int", "bestRow", 1, ARGUMENT),
            line("int", "ifReach", 1, ARGUMENT), line("double", "oddShare", 0), line("long", "digest", 0)));
        List<String> got = new ArrayList<>();
        for (Method method : OddChoir.class.getDeclaredMethods()) {
            if (Modifier.isPublic(method.getModifiers())) {
                String[] exceptions = Arrays.stream(method.getExceptionTypes()).map(Class::getSimpleName)
                    .toArray(String[]::new);
                got.add(line(method.getReturnType().getName(), method.getName(), method.getParameterCount(),
                    exceptions));
                for (Class<?> type : method.getParameterTypes()) {
                    CHECKS.compare("argument of " + method.getName(), int.class, type);
                }
            }
        }
        Collections.sort(due);
        Collections.sort(got);
        CHECKS.compare("the face", due, got);
        CHECKS.holds("the class is public and final",
            (OddChoir.class.getModifiers() & (Modifier.PUBLIC | Modifier.FINAL)) == (Modifier.PUBLIC | Modifier.FINAL));
        CHECKS.compare("the class has no package", "", OddChoir.class.getPackageName());
    }

    private static void constant() throws ReflectiveOperationException {
        Field none = OddChoir.class.getDeclaredField("NONE");
        CHECKS.compare("NONE is a constant", "public static final int",
            Modifier.toString(none.getModifiers()) + " " + none.getType());
        CHECKS.compare("NONE", -1, none.get(null));
    }

    private static void onlyTheFaceIsSeen() {
        List<Member> others = new ArrayList<>();
        for (Field field : OddChoir.class.getDeclaredFields()) {
            if (!field.getName().equals("NONE") && !Modifier.isPrivate(field.getModifiers())) {
                others.add(field);
            }
        }
        for (Method method : OddChoir.class.getDeclaredMethods()) {
            int seen = method.getModifiers() & (Modifier.PUBLIC | Modifier.PRIVATE);
            if (seen == 0) {
                others.add(method);
            }
        }
        CHECKS.compare("members that are not to be seen", List.of(), others);
        Constructor<?>[] constructors = OddChoir.class.getDeclaredConstructors();
        CHECKS.compare("one constructor", 1, constructors.length);
        CHECKS.compare("without arguments", 0, constructors[0].getParameterCount());
        CHECKS.holds("that is public", Modifier.isPublic(constructors[0].getModifiers()));
    }

    /** All calls of a run live in one room: what they need is made with the object, and nothing after it. */
    private static void room() {
        com.sun.management.ThreadMXBean threads =
            (com.sun.management.ThreadMXBean) java.lang.management.ManagementFactory.getThreadMXBean();
        OddChoir x = new OddChoir();
        rounds(x, 1);
        long before = threads.getCurrentThreadAllocatedBytes();
        rounds(x, 4);
        long made = threads.getCurrentThreadAllocatedBytes() - before;
        CHECKS.holds("bytes made by 400 calls: " + made, made < 10_000);
    }

    private static void rounds(OddChoir x, int rounds) {
        String text = "turn:0;low:0;high:0;voice:0;swap:0,05;join:3,101s";
        for (int round = 0; round < rounds; round++) {
            for (int i = x.count(0); i < 24; i++) {
                x.join(i / 6, 100 + i * 37 % 121, i % 4);
            }
            for (int i = 0; i < text.length(); i++) {
                x.append(text.charAt(i));
            }
            x.firstError();
            x.chant();
            x.keep();
            x.leave(3, 0);
            x.cross(0, 0, 3);
            x.grow(1, 1, 111);
            x.swap(1, 0, 2, 0);
            x.sort(1, 2);
            x.turn(2);
            x.set(0, 3);
            x.restore();
            x.undo();
            x.bestSwap(1);
            x.bestRow(150);
            x.ifSwapped(1, 1, 2, 2);
            x.ifReach(2);
            x.oddShare();
            x.row(1, 5);
            x.singer(1, 5, 5);
            x.written(1, 4);
            x.digest();
            x.restore();
        }
    }
}
