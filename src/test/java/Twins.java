import java.util.ArrayList;
import java.util.List;
import java.util.function.Supplier;

/**
 * Checks calls on objects made alike: what is done to one of two twins must leave it like the other one, also where
 * no look reaches, in its saved states and its snapshot.
 */
final class Twins {
    interface CallOn {
        long on(OddChoir x);
    }

    interface CallWith {
        long on(OddChoir x, int value);
    }

    private static final int[] FAR_OFF = {Integer.MIN_VALUE, -65536, -256, 256, 65536, Integer.MAX_VALUE};

    private final Checks checks;

    Twins(Checks checks) {
        this.checks = checks;
    }

    /** Row 0 has three, row 1 six, row 2 nobody, row 3 two; six states are saved, a snapshot and a text are there. */
    static OddChoir busy() {
        OddChoir x = new OddChoir();
        Choirs.fill(x, 0, 150, 170, 160, 140);
        Choirs.fill(x, 1, 180, 120, 200, 120, 199);
        x.join(3, 155, 2);
        x.join(3, 165, 3);
        x.set(0, 4);
        x.keep();
        x.leave(0, 1);
        x.join(1, 101, 1);
        x.grow(0, 0, 151);
        x.swap(0, 0, 1, 0);
        x.turn(3);
        x.set(0, 5);
        Choirs.type(x, "turn:0;lo");
        return x;
    }

    /** The same rows with fewer than six saved states, so that the next one drops none. */
    static OddChoir lessBusy() {
        OddChoir x = busy();
        x.undo();
        x.undo();
        return x;
    }

    /** All that an object is, told by taking it apart: the state, each one that undo brings, and what restore does. */
    static List<Object> whole(OddChoir x) {
        List<Object> all = new ArrayList<>();
        all.add(x.digest());
        for (int saved = x.count(8); saved > 0; saved--) {
            x.undo();
            all.add(x.digest());
        }
        try {
            x.restore();
            all.add(x.digest());
        } catch (IllegalStateException noSnapshot) {
            all.add(noSnapshot.getClass());
        }
        return all;
    }

    static Object answer(OddChoir x, CallOn call) {
        try {
            return call.on(x);
        } catch (RuntimeException e) {
            return e.getClass();
        }
    }

    void refuses(String sentence, Supplier<OddChoir> made, Class<?> kind, CallOn call) {
        OddChoir x = made.get();
        checks.compare(sentence, kind, answer(x, call));
        checks.compare(sentence + ": nothing is changed", whole(made.get()), whole(x));
    }

    void refuses(String sentence, Class<?> kind, CallOn call) {
        refuses(sentence, Twins::busy, kind, call);
    }

    void takes(String sentence, Supplier<OddChoir> made, CallOn call) {
        Object got = answer(made.get(), call);
        checks.holds(sentence + ": taken, not " + got, got instanceof Long);
    }

    /** Taken from the least to the greatest one, refused next to these and far off. */
    void within(String sentence, Class<?> kind, int least, int greatest, CallWith call) {
        for (int value = least; value <= greatest; value++) {
            int given = value;
            takes(sentence + " (" + given + ")", Twins::busy, x -> call.on(x, given));
        }
        refusesOutside(sentence, kind, least, greatest, call);
    }

    void refusesOutside(String sentence, Class<?> kind, int least, int greatest, CallWith call) {
        refuses(sentence + " (" + (least - 1) + ")", kind, x -> call.on(x, least - 1));
        refuses(sentence + " (" + (greatest + 1) + ")", kind, x -> call.on(x, greatest + 1));
        for (int far : FAR_OFF) {
            // what a narrower type would take for one that is in range
            for (int given : new int[] {far, far + least}) {
                if (given < least || given > greatest) {
                    refuses(sentence + " (" + given + ")", kind, x -> call.on(x, given));
                }
            }
        }
    }

    /** The call answers and leaves the object as it was, its buffer, saved states and snapshot too. */
    void changesNothing(String sentence, Supplier<OddChoir> made, CallOn call) {
        OddChoir x = made.get();
        Object first = answer(x, call);
        checks.compare(sentence + ": the same answer again", first, answer(x, call));
        checks.compare(sentence + ": nothing is changed", whole(made.get()), whole(x));
    }

    /** One state is saved, and undo brings all back but what the call did to the buffer. */
    void undoable(String sentence, CallOn call) {
        OddChoir x = lessBusy();
        int saved = x.count(8);
        x.clearBuffer();
        long before = x.digest();
        Choirs.type(x, "low:2");
        checks.holds(sentence + ": it answers", answer(x, call) instanceof Long);
        checks.compare(sentence + ": one state is saved", saved + 1, x.count(8));
        checks.compare(sentence + ": undo leaves those before", saved, x.undo());
        x.clearBuffer();
        checks.compare(sentence + ": undo restores all", before, x.digest());
        dropsTheOldest(sentence, call);
    }

    private void dropsTheOldest(String sentence, CallOn call) {
        OddChoir x = busy();
        answer(x, call);
        checks.compare(sentence + ": at most six states", 6, x.count(8));
        x.undo();
        OddChoir twin = busy();
        checks.compare(sentence + ": undone with six", seen(twin), seen(x));
        for (int saved = 5; saved > 0; saved--) {
            x.undo();
            twin.undo();
            checks.compare(sentence + ": state " + saved, seen(twin), seen(x));
        }
        checks.compare(sentence + ": the oldest one is dropped", IllegalStateException.class,
            answer(x, OddChoir::undo));
        checks.compare(sentence + ": which the twin has", 1, twin.count(8));
    }

    /** What can be seen of a state, without the count of saved ones and the buffer. */
    static String seen(OddChoir x) {
        StringBuilder text = new StringBuilder();
        for (int row = 0; row < 4; row++) {
            text.append(Choirs.text(x, row)).append(" (").append(Choirs.numbers(x, row)).append(") ");
        }
        for (int what = 0; what < 8; what++) {
            text.append(x.count(what)).append(' ');
        }
        return text.toString();
    }
}
