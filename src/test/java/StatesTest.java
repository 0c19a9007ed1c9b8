/** What the document says of undo and the snapshot: what is saved, when, how many, and what is not. */
public final class StatesTest {
    private static final Checks CHECKS = new Checks();
    private static final Twins TWINS = new Twins(CHECKS);
    private static final Class<?> STATE = IllegalStateException.class;

    public static void main(String[] args) {
        undoableCalls();
        undoableCallsThatChangeNothing();
        callsThatSaveNothing();
        refusedCallsSaveNothing();
        looksChangeNothing();
        atMostSixStates();
        fewerThanSixStates();
        undoThenGoOn();
        countsComeBack();
        bufferStays();
        snapshotStays();
        savedStatesStay();
        keepCounts();
        restoreCounts();
        restoreOfAll();
        restoreManyTimes();
        keepInPlaceOfTheOneBefore();
        keepIsACopy();
        keepOfNobody();
        CHECKS.close();
    }

    private static void undoableCalls() {
        TWINS.undoable("2 join", x -> x.join(0, 150, 0));
        TWINS.undoable("3 leave", x -> x.leave(1, 2));
        TWINS.undoable("4 grow", x -> x.grow(1, 2, 111));
        TWINS.undoable("5 swap", x -> x.swap(0, 0, 1, 1));
        TWINS.undoable("5 swap within a row", x -> x.swap(1, 0, 1, 5));
        TWINS.undoable("6 cross", x -> x.cross(1, 0, 2));
        TWINS.undoable("7 turn", x -> x.turn(1));
        TWINS.undoable("8 sort low", x -> x.sort(1, 0));
        TWINS.undoable("8 sort high", x -> x.sort(1, 1));
        TWINS.undoable("8 sort voice", x -> x.sort(1, 2));
        TWINS.undoable("9 set the reach", x -> x.set(0, 1));
        TWINS.undoable("9 set the row behind", x -> x.set(1, 0));
        TWINS.undoable("17 restore", OddChoir::restore);
    }

    /** "also if it changes nothing" */
    private static void undoableCallsThatChangeNothing() {
        TWINS.undoable("4 grow to the same height", x -> x.grow(1, 0, x.singer(1, 0, 1)));
        TWINS.undoable("5 swap with itself", x -> x.swap(1, 0, 1, 0));
        TWINS.undoable("7 turn of an empty row", x -> x.turn(2));
        TWINS.undoable("8 sort of an empty row", x -> x.sort(2, 0));
        TWINS.undoable("9 set to the same reach", x -> x.set(0, x.count(6)));
        TWINS.undoable("9 set to the same row behind", x -> x.set(1, x.count(7)));
        OddChoir x = new OddChoir();
        x.keep();
        CHECKS.due("17 restore that changes nothing", 0, x::restore);
        CHECKS.due("17 restore that changes nothing is saved", 1, () -> x.count(8));
        x.join(0, 150, 0);
        x.turn(0);
        x.sort(0, 0);
        x.sort(0, 0);
        CHECKS.due("turn and sort of one that change nothing are saved", 5, () -> x.count(8));
    }

    private static void savesNothing(String call, Twins.CallOn done) {
        OddChoir x = Twins.lessBusy();
        String before = Twins.seen(x);
        CHECKS.holds(call + ": it answers", Twins.answer(x, done) instanceof Long);
        CHECKS.due(call + ": no state is saved", 4, () -> x.count(8));
        CHECKS.compare(call + ": rows and counts stay", before, Twins.seen(x));
    }

    private static void callsThatSaveNothing() {
        savesNothing("10 append", x -> x.append('w'));
        savesNothing("11 clearBuffer", OddChoir::clearBuffer);
        savesNothing("12 firstError", OddChoir::firstError);
        savesNothing("14 written", x -> x.written(0, 0));
        savesNothing("16 keep", OddChoir::keep);
    }

    private static void refusedCallsSaveNothing() {
        OddChoir x = new OddChoir();
        Twins.CallOn[] calls = {y -> y.join(0, 99, 0), y -> y.join(4, 150, 0), y -> y.join(0, 150, 4),
            y -> y.leave(0, 0), y -> y.grow(0, 0, 150), y -> y.swap(0, 0, 0, 0), y -> y.cross(0, 0, 1),
            y -> y.turn(4), y -> y.sort(0, 3), y -> y.sort(4, 0), y -> y.set(2, 1), y -> y.set(0, 0), y -> y.set(1, 2),
            OddChoir::chant, OddChoir::restore, OddChoir::undo};
        for (int i = 0; i < calls.length; i++) {
            Object got = Twins.answer(x, calls[i]);
            CHECKS.holds("refused call " + i + " throws, not " + got, got instanceof Class);
            CHECKS.due("refused call " + i + " saves nothing", 0, () -> x.count(8));
        }
        CHECKS.compare("refused calls: as a new object", new OddChoir().digest(), x.digest());
    }

    /** "looks; nothing is changed" and "what would be; nothing is changed" */
    private static void looksChangeNothing() {
        for (int what = 0; what <= 8; what++) {
            int which = what;
            TWINS.changesNothing("18 singer " + what, Twins::busy, x -> x.singer(1, 3, which));
            TWINS.changesNothing("19 row " + what, Twins::busy, x -> x.row(1, which));
            TWINS.changesNothing("19 row " + what + ", an empty one", Twins::busy, x -> x.row(2, which));
            TWINS.changesNothing("20 find " + what, Twins::busy, x -> x.find(which));
            TWINS.changesNothing("21 count " + what, Twins::busy, x -> x.count(which));
            TWINS.changesNothing("23 bestSwap " + what, Twins::busy, x -> x.bestSwap(which));
            TWINS.changesNothing("24 bestRow " + what, Twins::busy, x -> x.bestRow(100 + 15 * which));
            TWINS.changesNothing("25 ifReach " + what, Twins::busy, x -> x.ifReach(which));
        }
        TWINS.changesNothing("22 ifSwapped", Twins::busy, x -> x.ifSwapped(0, 1, 1, 4));
        TWINS.changesNothing("22 ifSwapped in a row", Twins::busy, x -> x.ifSwapped(1, 0, 1, 5));
        TWINS.changesNothing("22 ifSwapped with itself", Twins::busy, x -> x.ifSwapped(1, 0, 1, 0));
        TWINS.changesNothing("26 oddShare", Twins::busy, x -> Double.doubleToLongBits(x.oddShare()));
        TWINS.changesNothing("27 digest", Twins::busy, OddChoir::digest);
    }

    private static void atMostSixStates() {
        for (int calls = 7; calls <= 20; calls++) {
            OddChoir x = new OddChoir();
            for (int call = 1; call <= calls; call++) {
                x.set(0, 1 + call % 6);
                x.set(1, call % 2);
            }
            CHECKS.due("undo: at most six after " + 2 * calls, 6, () -> x.count(8));
            for (int back = 0; back < 6; back++) {
                int left = 5 - back;
                // the reach of two calls ago stands from the second undo of a pair on
                int reach = 1 + (calls - (back + 1) / 2) % 6;
                CHECKS.due("undo: left", left, x::undo);
                CHECKS.due("undo: the latest first", reach, () -> x.count(6));
            }
            CHECKS.compare("undo: the oldest ones are dropped", STATE, Twins.answer(x, OddChoir::undo));
        }
    }

    private static void fewerThanSixStates() {
        for (int calls = 0; calls <= 6; calls++) {
            OddChoir x = new OddChoir();
            for (int call = 0; call < calls; call++) {
                x.join(0, 150 + call, 0);
            }
            int saved = calls;
            CHECKS.due("undo: saved states after " + calls, saved, () -> x.count(8));
            for (int left = calls - 1; left >= 0; left--) {
                CHECKS.due("undo: left of " + calls, left, x::undo);
                CHECKS.due("undo: singers", left, () -> x.count(0));
            }
            CHECKS.compare("undo: none is left of " + calls, STATE, Twins.answer(x, OddChoir::undo));
            CHECKS.compare("undo: new again", new OddChoir().digest(), x.digest());
        }
    }

    private static void undoThenGoOn() {
        OddChoir x = new OddChoir();
        for (int height = 101; height <= 106; height++) {
            x.join(0, height, 0);
        }
        x.sort(0, 1);
        x.undo();
        x.undo();
        x.join(0, 200, 1);
        CHECKS.due("undo: goes on", 5, () -> x.count(8));
        x.turn(0);
        x.turn(0);
        CHECKS.due("undo: six again", 6, () -> x.count(8));
        String[] dues = {"200t 105b 104b 103b 102b 101b", "101b 102b 103b 104b 105b 200t", "101b 102b 103b 104b 105b",
            "101b 102b 103b 104b", "101b 102b 103b", "101b 102b"};
        for (int back = 0; back < 6; back++) {
            x.undo();
            CHECKS.compare("undo: what was undone is not there, " + back, dues[back], Choirs.text(x, 0));
        }
        CHECKS.compare("undo: the oldest ones are dropped all the same", STATE, Twins.answer(x, OddChoir::undo));
    }

    /** "all, also what is counted so far" */
    private static void countsComeBack() {
        OddChoir x = new OddChoir();
        Choirs.fill(x, 0, 150, 160, 170);
        x.leave(0, 0);
        CHECKS.due("undo: singers who left so far", 1, () -> x.count(3));
        x.undo();
        CHECKS.due("undo: nobody left", 0, () -> x.count(3));
        x.swap(0, 0, 0, 1);
        CHECKS.due("undo: swaps so far", 1, () -> x.count(4));
        x.undo();
        CHECKS.due("undo: no swap", 0, () -> x.count(4));
        x.undo();
        CHECKS.due("undo: singers who came so far", 2, () -> x.count(2));
        CHECKS.due("undo: the number comes again", 2, () -> x.join(1, 150, 0));
        CHECKS.due("undo: where the new one is", 6, () -> x.find(2));
    }

    private static void bufferStays() {
        OddChoir x = new OddChoir();
        Choirs.type(x, "low");
        x.join(0, 150, 0);
        Choirs.type(x, ":0");
        x.keep();
        x.clearBuffer();
        Choirs.type(x, "turn");
        CHECKS.due("undo: not the buffer", 0, x::undo);
        CHECKS.due("undo: its length stays", 5, () -> x.append(':'));
        CHECKS.due("17 restore: not the buffer", 1, x::restore);
        CHECKS.due("17 restore: its length stays", 6, () -> x.append('0'));
        CHECKS.due("undo and restore: its text stays", 1, x::chant);
        x.undo();
        CHECKS.due("undo of chant: the buffer stays cleared", 0, x::clearBuffer);
    }

    private static void snapshotStays() {
        OddChoir x = new OddChoir();
        x.join(0, 150, 0);
        x.keep();
        x.join(0, 160, 0);
        x.join(0, 170, 0);
        x.undo();
        x.undo();
        x.undo();
        CHECKS.due("undo: nobody is there", 0, () -> x.count(0));
        CHECKS.due("undo: not the snapshot", 1, x::restore);
        x.undo();
        CHECKS.due("17 restore undone: the snapshot stays", 1, x::restore);
        OddChoir y = new OddChoir();
        y.join(0, 150, 0);
        y.keep();
        y.undo();
        CHECKS.holds("undo: a snapshot taken later than the state stays", Twins.answer(y, OddChoir::restore) != STATE);
    }

    private static void savedStatesStay() {
        OddChoir x = new OddChoir();
        x.join(0, 150, 0);
        x.keep();
        x.join(0, 160, 0);
        x.join(0, 170, 0);
        x.restore();
        CHECKS.due("17 restore: saved states are no part of the snapshot", 4, () -> x.count(8));
        int[] dues = {3, 2, 1, 0};
        for (int due : dues) {
            x.undo();
            CHECKS.due("17 restore: those saved before come back", due, () -> x.count(0));
        }
    }

    private static void keepCounts() {
        OddChoir x = new OddChoir();
        CHECKS.due("16 keep: nobody", 0, x::keep);
        for (int singer = 1; singer <= 24; singer++) {
            int all = singer;
            x.join((singer - 1) / 6, 150, 0);
            CHECKS.due("16 keep: " + singer, all, x::keep);
        }
        x.leave(2, 0);
        CHECKS.due("16 keep: those who are there", 23, x::keep);
    }

    private static void restoreCounts() {
        OddChoir x = new OddChoir();
        for (int singer = 1; singer <= 24; singer++) {
            x.join((singer - 1) / 6, 150, 0);
        }
        x.keep();
        x.leave(0, 0);
        CHECKS.due("17 restore: how many there are then", 24, x::restore);
        CHECKS.due("17 restore: they are there", 24, () -> x.count(0));
        CHECKS.due("17 restore: nobody left", 0, () -> x.count(3));
    }

    private static void restoreOfAll() {
        OddChoir x = Twins.lessBusy();
        String kept = Twins.seen(x);
        x.keep();
        x.join(2, 190, 3);
        x.leave(1, 1);
        x.swap(0, 0, 3, 1);
        x.grow(0, 0, 220);
        x.set(0, 1);
        x.set(1, 0);
        x.cross(1, 0, 2);
        CHECKS.holds("17 restore: all was changed", !kept.equals(Twins.seen(x)));
        x.restore();
        CHECKS.compare("17 restore: all is as it was", kept, Twins.seen(x));
    }

    private static void restoreManyTimes() {
        OddChoir x = new OddChoir();
        x.join(3, 150, 2);
        x.keep();
        for (int time = 0; time < 10; time++) {
            x.grow(3, 0, 151 + time);
            x.join(0, 160, 0);
            CHECKS.due("17 restore: which stays, " + time, 1, x::restore);
            CHECKS.compare("17 restore: the same again, " + time, "150a", Choirs.text(x, 3));
        }
        CHECKS.due("17 restore: two in a row", 1, x::restore);
    }

    private static void keepInPlaceOfTheOneBefore() {
        OddChoir x = new OddChoir();
        Choirs.fill(x, 0, 150, 160, 170, 180);
        x.keep();
        x.leave(0, 0);
        x.leave(0, 0);
        CHECKS.due("16 keep: in place of the one before", 2, x::keep);
        x.join(1, 150, 0);
        CHECKS.due("17 restore: of the later one", 2, x::restore);
        CHECKS.compare("17 restore: nobody of the one before", "170b 180b", Choirs.text(x, 0));
        x.undo();
        x.undo();
        x.undo();
        CHECKS.due("17 restore: undo does not bring the one before", 2, x::restore);
    }

    private static void keepIsACopy() {
        OddChoir x = Twins.lessBusy();
        x.keep();
        String kept = Twins.seen(x);
        x.sort(0, 0);
        x.turn(1);
        x.grow(3, 0, 219);
        x.restore();
        x.turn(1);
        x.grow(1, 0, 218);
        x.leave(3, 1);
        x.restore();
        CHECKS.compare("16 keep: later calls do not reach it", kept, Twins.seen(x));
    }

    private static void keepOfNobody() {
        OddChoir x = new OddChoir();
        x.keep();
        x.join(0, 150, 0);
        CHECKS.due("17 restore: a snapshot of nobody is one", 0, x::restore);
        CHECKS.due("17 restore: of nobody is undoable", 1, x::undo);
        CHECKS.due("17 restore: of nobody undone", 1, () -> x.count(0));
    }
}
