import java.lang.reflect.Constructor;
import java.lang.reflect.Field;
import java.lang.reflect.Member;
import java.lang.reflect.Method;
import java.lang.reflect.Modifier;
import java.util.ArrayList;
import java.util.Arrays;
import java.util.Collections;
import java.util.List;

/** The public face is the document's and no more, and what a run makes stays small. */
public final class FaceTest {
    private static final Checks CHECKS = new Checks();
    private static final String INDEX = "IndexOutOfBoundsException";
    private static final String ARGUMENT = "IllegalArgumentException";
    private static final String STATE = "IllegalStateException";

    public static void main(String[] args) {
        face();
        onlyTheFaceIsSeen();
        room();
        CHECKS.close();
    }

    private static String line(String result, String name, int arguments, String... exceptions) {
        return result + " " + name + " " + arguments + " " + String.join(" ", exceptions);
    }

    private static void face() {
        List<String> due = new ArrayList<>(List.of(
            line("int", "join", 3, INDEX, ARGUMENT, STATE), line("int", "leave", 2, INDEX),
            line("int", "grow", 3, INDEX, ARGUMENT), line("int", "swap", 4, INDEX),
            line("int", "cross", 3, INDEX, STATE), line("int", "turn", 1, INDEX),
            line("int", "sort", 2, INDEX, ARGUMENT), line("int", "set", 2, INDEX, ARGUMENT),
            line("int", "append", 1, ARGUMENT, STATE), line("int", "clearBuffer", 0), line("int", "firstError", 0),
            line("int", "chant", 0, ARGUMENT), line("int", "written", 2, INDEX, ARGUMENT),
            line("int", "undo", 0, STATE), line("int", "keep", 0), line("int", "restore", 0, STATE),
            line("int", "singer", 3, INDEX, ARGUMENT), line("int", "row", 2, INDEX, ARGUMENT),
            line("int", "find", 1, ARGUMENT), line("int", "count", 1, ARGUMENT), line("int", "ifSwapped", 4, INDEX),
            line("int", "bestSwap", 1, INDEX), line("int", "bestRow", 1, ARGUMENT),
            line("int", "ifReach", 1, ARGUMENT), line("double", "oddShare", 0), line("long", "digest", 0)));
        List<String> got = new ArrayList<>();
        for (Method method : OddChoir.class.getDeclaredMethods()) {
            if (Modifier.isPublic(method.getModifiers())) {
                String[] exceptions = Arrays.stream(method.getExceptionTypes()).map(Class::getSimpleName)
                    .toArray(String[]::new);
                got.add(line(method.getReturnType().getName(), method.getName(), method.getParameterCount(),
                    exceptions));
                for (Class<?> type : method.getParameterTypes()) {
                    CHECKS.compare("argument of " + method.getName(), int.class, type);
                }
            }
        }
        Collections.sort(due);
        Collections.sort(got);
        CHECKS.compare("the face", due, got);
        CHECKS.holds("the class is public and final",
            (OddChoir.class.getModifiers() & (Modifier.PUBLIC | Modifier.FINAL)) == (Modifier.PUBLIC | Modifier.FINAL));
        CHECKS.compare("the class has no package", "", OddChoir.class.getPackageName());
    }

    private static void onlyTheFaceIsSeen() {
        List<Member> others = new ArrayList<>();
        for (Field field : OddChoir.class.getDeclaredFields()) {
            if (!field.getName().equals("NONE") && !Modifier.isPrivate(field.getModifiers())) {
                others.add(field);
            }
        }
        for (Method method : OddChoir.class.getDeclaredMethods()) {
            int seen = method.getModifiers() & (Modifier.PUBLIC | Modifier.PRIVATE);
            if (seen == 0) {
                others.add(method);
            }
        }
        CHECKS.compare("members that are not to be seen", List.of(), others);
        Constructor<?>[] constructors = OddChoir.class.getDeclaredConstructors();
        CHECKS.compare("one constructor", 1, constructors.length);
        CHECKS.compare("without arguments", 0, constructors[0].getParameterCount());
        CHECKS.holds("that is public", Modifier.isPublic(constructors[0].getModifiers()));
    }

    /** 512 of the dearest calls make next to nothing: all is made with the object. */
    private static void room() {
        OddChoir x = new OddChoir();
        for (int i = 0; i < 24; i++) {
            x.join(i / 6, 100 + i * 37 % 121, i % 4);
        }
        Choirs.type(x, "turn:0;low:1;high:2;voice:3;swap:0,05");
        com.sun.management.ThreadMXBean threads =
            (com.sun.management.ThreadMXBean) java.lang.management.ManagementFactory.getThreadMXBean();
        threads.getCurrentThreadAllocatedBytes();
        x.digest();
        x.chant();
        long before = threads.getCurrentThreadAllocatedBytes();
        for (int i = 0; i < 488; i++) {
            x.digest();
        }
        long made = threads.getCurrentThreadAllocatedBytes() - before;
        CHECKS.holds("bytes made by 488 digests: " + made, made < 10_000);
    }
}
