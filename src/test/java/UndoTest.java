/** Promises 15 to 17: undo, keep, restore. */
public final class UndoTest {
    private static final Checks CHECKS = new Checks();
    private static final Class<IllegalStateException> STATE = IllegalStateException.class;

    public static void main(String[] args) {
        undoEachCall();
        undoOnlySix();
        undoWhatIsNotSaved();
        keepAndRestore();
        restoreAfterUndo();
        CHECKS.close();
    }

    private static OddChoir someChoir() {
        OddChoir x = new OddChoir();
        Choirs.fill(x, 0, 180, 160, 170);
        Choirs.fill(x, 1, 200, 165, 140, 171);
        x.leave(1, 2);
        x.swap(0, 0, 0, 1);
        return x;
    }

    /** All but the count of saved states, which grows with every call that is undone. */
    private static String whole(OddChoir x) {
        StringBuilder text = new StringBuilder();
        for (int row = 0; row < 4; row++) {
            text.append(Choirs.text(x, row)).append(" (").append(Choirs.numbers(x, row)).append(") ");
        }
        for (int what = 0; what < 8; what++) {
            text.append(x.count(what)).append(' ');
        }
        return text.toString();
    }

    private static void undoEachCall() {
        String[] names = {"join", "leave", "grow", "swap", "cross", "turn", "sort", "set 0", "set 1", "chant",
            "restore"};
        for (int call = 0; call < names.length; call++) {
            OddChoir x = someChoir();
            x.keep();
            x.join(3, 101, 3);
            String before = whole(x);
            change(x, call);
            CHECKS.holds(names[call] + " changes", !before.equals(whole(x)));
            CHECKS.due("undo of " + names[call], 5, x::undo);
            CHECKS.compare("undone " + names[call], before, whole(x));
        }
    }

    private static void change(OddChoir x, int call) {
        switch (call) {
            case 0 -> x.join(2, 150, 1);
            case 1 -> x.leave(0, 1);
            case 2 -> x.grow(0, 2, 199);
            case 3 -> x.swap(0, 0, 1, 1);
            case 4 -> x.cross(1, 0, 3);
            case 5 -> x.turn(0);
            case 6 -> x.sort(0, 1);
            case 7 -> x.set(0, 2);
            case 8 -> x.set(1, 0);
            case 9 -> {
                Choirs.type(x, "join:2,150b;turn:0;swap:1,02");
                x.chant();
            }
            default -> x.restore();
        }
    }

    private static void undoOnlySix() {
        OddChoir x = new OddChoir();
        for (int reach = 1; reach <= 6; reach++) {
            x.set(0, reach);
            int saved = reach;
            CHECKS.due("saved states", saved, () -> x.count(8));
        }
        x.set(0, 3);
        x.set(0, 5);
        CHECKS.due("saved states at most", 6, () -> x.count(8));
        int[] reaches = {3, 6, 5, 4, 3, 2};
        for (int i = 0; i < 6; i++) {
            int left = 5 - i;
            int reach = reaches[i];
            CHECKS.due("undo: left", left, x::undo);
            CHECKS.due("undo: reach", reach, () -> x.count(6));
        }
        CHECKS.refused("undo: the oldest are dropped", x, STATE, x::undo);
        x.set(0, 1);
        CHECKS.due("undo goes on", 0, x::undo);
        CHECKS.due("undo goes on: reach", 2, () -> x.count(6));
    }

    private static void undoWhatIsNotSaved() {
        OddChoir x = someChoir();
        x.keep();
        CHECKS.due("keep is not undoable", 6, () -> x.count(8));
        x.undo();
        Choirs.type(x, "abc");
        x.undo();
        CHECKS.due("undo leaves the buffer", 3, x::clearBuffer);
        x.restore();
        CHECKS.due("undo leaves the snapshot", 1, () -> x.count(4));
        CHECKS.due("restore is undoable", 5, () -> x.count(8));
    }

    private static void keepAndRestore() {
        OddChoir x = new OddChoir();
        CHECKS.refused("restore without a snapshot", x, STATE, x::restore);
        CHECKS.due("keep of nobody", 0, x::keep);
        x.join(0, 150, 1);
        x.join(0, 160, 2);
        CHECKS.due("restore of nobody", 0, x::restore);
        CHECKS.due("restore: what is counted", 0, () -> x.count(2));
        CHECKS.due("restore: numbers begin again", 0, () -> x.join(3, 155, 0));
        x.set(0, 2);
        x.set(1, 0);
        CHECKS.due("keep in place of the one before", 1, x::keep);
        x.leave(3, 0);
        x.set(0, 4);
        x.set(1, 1);
        Choirs.type(x, "low");
        CHECKS.due("restore", 1, x::restore);
        CHECKS.compare("restore: row", "155b", Choirs.text(x, 3));
        CHECKS.due("restore: reach", 2, () -> x.count(6));
        CHECKS.due("restore: behind", 0, () -> x.count(7));
        CHECKS.due("restore: left", 0, () -> x.count(3));
        CHECKS.due("restore: saved states stay", 6, () -> x.count(8));
        CHECKS.due("restore leaves the buffer", 3, x::clearBuffer);
        x.grow(3, 0, 200);
        CHECKS.due("restore: the snapshot stays", 1, x::restore);
        CHECKS.compare("restore again: row", "155b", Choirs.text(x, 3));
        x.undo();
        CHECKS.compare("restore undone", "200b", Choirs.text(x, 3));
    }

    private static void restoreAfterUndo() {
        OddChoir x = new OddChoir();
        x.join(0, 150, 0);
        x.keep();
        x.undo();
        CHECKS.due("undo leaves nobody", 0, () -> x.count(0));
        CHECKS.due("the snapshot outlives what it was taken of", 1, x::restore);
        CHECKS.due("find after restore", 0, () -> x.find(0));
    }
}
