import java.util.Objects;

/** Counts the checks of one test, prints those that fail, and ends with exit code 1 if there was one. */
final class Checks {
    interface Call {
        long answer();
    }

    private int seen;
    private int wrong;

    void due(String what, long want, Call call) {
        Object got;
        try {
            got = call.answer();
        } catch (RuntimeException e) {
            got = e.getClass();
        }
        compare(what, want, got);
    }

    /** The call throws just this exception, and the object stays as it is. */
    void refused(String what, OddChoir choir, Class<? extends RuntimeException> kind, Call call) {
        long before = choir.digest();
        Object got;
        try {
            got = call.answer();
        } catch (RuntimeException e) {
            got = e.getClass();
        }
        compare(what, kind, got);
        compare(what + " changes nothing", before, choir.digest());
    }

    void holds(String what, boolean claim) {
        compare(what, true, claim);
    }

    void compare(String what, Object want, Object got) {
        seen++;
        if (!Objects.equals(want, got)) {
            wrong++;
            System.out.println(what + " answered " + got + ", due is " + want);
        }
    }

    void close() {
        System.out.println((seen - wrong) + " checks hold, " + wrong + " do not");
        if (wrong > 0 || seen == 0) {
            System.exit(1);
        }
    }
}
