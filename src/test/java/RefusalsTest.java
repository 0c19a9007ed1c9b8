import java.util.function.Supplier;

/**
 * Every "Throws" sentence of the document, promise by promise: what is refused on both sides of the border and far
 * off, that a refused call changes nothing, the last values that are taken, and which exception comes first where
 * several apply.
 */
public final class RefusalsTest {
    private static final Checks CHECKS = new Checks();
    private static final Twins TWINS = new Twins(CHECKS);
    private static final Class<?> INDEX = IndexOutOfBoundsException.class;
    private static final Class<?> ARGUMENT = IllegalArgumentException.class;
    private static final Class<?> STATE = IllegalStateException.class;
    private static final int FULL = 1;
    private static final int EMPTY = 2;

    public static void main(String[] args) {
        join();
        joinFull();
        leave();
        grow();
        swap();
        cross();
        turnAndSort();
        set();
        append();
        chant();
        written();
        undo();
        restore();
        singer();
        row();
        findAndCount();
        ifSwapped();
        bestSwapRowAndReach();
        firstNamed();
        firstNamedOfLooks();
        CHECKS.close();
    }

    private static Supplier<OddChoir> withRoom(int row) {
        return () -> {
            OddChoir x = Twins.busy();
            if (row == FULL) {
                x.leave(FULL, 0);
            }
            return x;
        };
    }

    private static void join() {
        for (int row = 0; row <= 3; row++) {
            int to = row;
            TWINS.takes("2 join: row " + row, withRoom(row), x -> x.join(to, 150, 0));
        }
        TWINS.refusesOutside("2 join: no such row", INDEX, 0, 3, (x, row) -> x.join(row, 150, 0));
        TWINS.within("2 join: height out of range", ARGUMENT, 100, 220, (x, height) -> x.join(0, height, 0));
        TWINS.within("2 join: voice out of range", ARGUMENT, 0, 3, (x, voice) -> x.join(0, 150, voice));
    }

    private static void joinFull() {
        TWINS.refuses("2 join: the row has 6", STATE, x -> x.join(FULL, 150, 0));
        TWINS.takes("2 join: the row has 5", withRoom(FULL), x -> x.join(FULL, 150, 0));
        Supplier<OddChoir> allFull = () -> {
            OddChoir x = new OddChoir();
            for (int singer = 0; singer < 24; singer++) {
                x.join(singer / 6, 150, 0);
            }
            return x;
        };
        for (int row = 0; row <= 3; row++) {
            int full = row;
            TWINS.refuses("2 join: row " + row + " has 6", allFull, STATE, x -> x.join(full, 150, 0));
        }
    }

    /** Nobody stands at a place: below the first, behind the last, in a full and an empty row, far off. */
    private static void nobody(String call, Twins.CallWith inRow0, Twins.CallWith inFull, Twins.CallWith inEmpty) {
        TWINS.within(call + ": nobody at the place", INDEX, 0, 2, inRow0);
        TWINS.within(call + ": nobody at the place of a full row", INDEX, 0, 5, inFull);
        TWINS.refuses(call + ": nobody in an empty row", INDEX, x -> inEmpty.on(x, 0));
        TWINS.refuses(call + ": nobody left of an empty row", INDEX, x -> inEmpty.on(x, -1));
        TWINS.refuses(call + ": nobody at the last place of an empty row", INDEX, x -> inEmpty.on(x, 5));
    }

    private static void noRow(String call, Twins.CallWith inRow) {
        for (int row : new int[] {0, 1, 3}) {
            TWINS.takes(call + ": row " + row, Twins::busy, x -> inRow.on(x, row));
        }
        TWINS.refusesOutside(call + ": no such row", INDEX, 0, 3, inRow);
    }

    private static void leave() {
        noRow("3 leave", (x, row) -> x.leave(row, 0));
        nobody("3 leave", (x, place) -> x.leave(0, place), (x, place) -> x.leave(FULL, place),
            (x, place) -> x.leave(EMPTY, place));
    }

    private static void grow() {
        noRow("4 grow", (x, row) -> x.grow(row, 0, 150));
        nobody("4 grow", (x, place) -> x.grow(0, place, 150), (x, place) -> x.grow(FULL, place, 150),
            (x, place) -> x.grow(EMPTY, place, 150));
        TWINS.within("4 grow: height out of range", ARGUMENT, 100, 220, (x, height) -> x.grow(3, 1, height));
    }

    private static void swap() {
        noRow("5 swap", (x, row) -> x.swap(row, 0, 3, 1));
        noRow("5 swap, the other", (x, row) -> x.swap(3, 1, row, 0));
        nobody("5 swap", (x, place) -> x.swap(0, place, 3, 0), (x, place) -> x.swap(FULL, place, 3, 0),
            (x, place) -> x.swap(EMPTY, place, 3, 0));
        nobody("5 swap, the other", (x, place) -> x.swap(3, 0, 0, place), (x, place) -> x.swap(3, 0, FULL, place),
            (x, place) -> x.swap(3, 0, EMPTY, place));
        TWINS.refuses("5 swap: nobody at both places", INDEX, x -> x.swap(0, 3, 3, 2));
        TWINS.refuses("5 swap: nobody with itself", INDEX, x -> x.swap(EMPTY, 0, EMPTY, 0));
    }

    private static void cross() {
        noRow("6 cross", (x, row) -> x.cross(row, 0, EMPTY));
        nobody("6 cross", (x, place) -> x.cross(0, place, 3), (x, place) -> x.cross(FULL, place, 3),
            (x, place) -> x.cross(EMPTY, place, 3));
        TWINS.refusesOutside("6 cross: no such row to cross to", INDEX, 0, 3, (x, to) -> x.cross(0, 0, to));
        for (int row : new int[] {0, FULL, 3}) {
            TWINS.refuses("6 cross: both rows are the same, " + row, STATE, x -> x.cross(row, 0, row));
        }
        TWINS.refuses("6 cross: the other one has 6", STATE, x -> x.cross(0, 0, FULL));
        TWINS.takes("6 cross: the other one has 5", withRoom(FULL), x -> x.cross(0, 0, FULL));
        TWINS.takes("6 cross: the other one has nobody", Twins::busy, x -> x.cross(0, 0, EMPTY));
        TWINS.takes("6 cross: the first row has 6", Twins::busy, x -> x.cross(FULL, 0, EMPTY));
    }

    private static void turnAndSort() {
        TWINS.within("7 turn: no such row", INDEX, 0, 3, OddChoir::turn);
        TWINS.within("8 sort: no such row", INDEX, 0, 3, (x, row) -> x.sort(row, 0));
        TWINS.within("8 sort: how is not 0 to 2", ARGUMENT, 0, 2, (x, how) -> x.sort(0, how));
        TWINS.within("8 sort: how is not 0 to 2, an empty row", ARGUMENT, 0, 2, (x, how) -> x.sort(EMPTY, how));
    }

    private static void set() {
        TWINS.within("9 set: no such setting", INDEX, 0, 1, (x, setting) -> x.set(setting, 1));
        TWINS.within("9 set: an ear's reach out of range", ARGUMENT, 1, 6, (x, value) -> x.set(0, value));
        TWINS.within("9 set: the row behind out of range", ARGUMENT, 0, 1, (x, value) -> x.set(1, value));
    }

    private static OddChoir fullBuffer() {
        OddChoir x = Twins.busy();
        while (x.append('~') < 60) {
            continue;
        }
        return x;
    }

    private static OddChoir almostFullBuffer() {
        OddChoir x = Twins.busy();
        while (x.append('~') < 59) {
            continue;
        }
        return x;
    }

    private static void append() {
        TWINS.within("10 append: code is not 33 to 126", ARGUMENT, 33, 126, OddChoir::append);
        TWINS.refuses("10 append: the buffer has 60", RefusalsTest::fullBuffer, STATE, x -> x.append('a'));
        TWINS.takes("10 append: the buffer has 59", RefusalsTest::almostFullBuffer, x -> x.append('a'));
    }

    private static void chant() {
        TWINS.refuses("13 chant: not complete", ARGUMENT, OddChoir::chant);
        TWINS.refuses("13 chant: an empty buffer", OddChoir::new, ARGUMENT, OddChoir::chant);
        TWINS.refuses("13 chant: a full buffer of no chants", RefusalsTest::fullBuffer, ARGUMENT, OddChoir::chant);
        TWINS.takes("13 chant: complete", Twins::busy, x -> x.append('w') + x.append(':') + x.append('3') + x.chant());
    }

    private static void written() {
        TWINS.within("14 written: no such row", INDEX, 0, 3, (x, row) -> x.written(row, 0));
        for (int below : new int[] {-1, -2, -5, -65536, Integer.MIN_VALUE}) {
            TWINS.refuses("14 written: index " + below, ARGUMENT, x -> x.written(0, below));
            TWINS.refuses("14 written: of nobody, index " + below, ARGUMENT, x -> x.written(EMPTY, below));
        }
        for (int index : new int[] {0, 1, 13, 14, 15, 29, 30, 65536, Integer.MAX_VALUE}) {
            TWINS.takes("14 written: index " + index, Twins::busy, x -> x.written(0, index));
        }
    }

    private static void undo() {
        TWINS.refuses("15 undo: there is none", OddChoir::new, STATE, OddChoir::undo);
        Supplier<OddChoir> allUndone = () -> {
            OddChoir x = Twins.busy();
            for (int saved = 6; saved > 0; saved--) {
                x.undo();
            }
            return x;
        };
        TWINS.refuses("15 undo: none is left of six", allUndone, STATE, OddChoir::undo);
        Supplier<OddChoir> onlyRefused = () -> {
            OddChoir x = new OddChoir();
            Twins.answer(x, y -> y.leave(0, 0));
            return x;
        };
        TWINS.refuses("15 undo: a refused call saved none", onlyRefused, STATE, OddChoir::undo);
    }

    private static void restore() {
        Supplier<OddChoir> noSnapshot = () -> {
            OddChoir x = new OddChoir();
            Choirs.fill(x, 0, 150, 160, 170, 160, 150, 140);
            return x;
        };
        TWINS.refuses("17 restore: no snapshot", noSnapshot, STATE, OddChoir::restore);
        TWINS.refuses("17 restore: no snapshot, a new object", OddChoir::new, STATE, OddChoir::restore);
    }

    private static void singer() {
        noRow("18 singer", (x, row) -> x.singer(row, 0, 0));
        for (int what = 0; what <= 7; what++) {
            int which = what;
            nobody("18 singer, what " + what, (x, place) -> x.singer(0, place, which),
                (x, place) -> x.singer(FULL, place, which), (x, place) -> x.singer(EMPTY, place, which));
        }
        TWINS.within("18 singer: what is not 0 to 7", ARGUMENT, 0, 7, (x, what) -> x.singer(3, 1, what));
    }

    private static void row() {
        for (int what = 0; what <= 6; what++) {
            int which = what;
            TWINS.within("19 row: no such row, what " + what, INDEX, 0, 3, (x, row) -> x.row(row, which));
        }
        TWINS.within("19 row: what is not 0 to 6", ARGUMENT, 0, 6, (x, what) -> x.row(0, what));
        TWINS.within("19 row: what is not 0 to 6, an empty row", ARGUMENT, 0, 6, (x, what) -> x.row(EMPTY, what));
    }

    private static void findAndCount() {
        for (int below : new int[] {-1, -2, -65536, Integer.MIN_VALUE}) {
            TWINS.refuses("20 find: number " + below, ARGUMENT, x -> x.find(below));
        }
        for (int number : new int[] {0, 1, 11, 12, 998, 999, 1000, 65536, Integer.MAX_VALUE}) {
            TWINS.takes("20 find: number " + number, Twins::busy, x -> x.find(number));
        }
        TWINS.within("21 count: what is not 0 to 8", ARGUMENT, 0, 8, OddChoir::count);
    }

    private static void ifSwapped() {
        noRow("22 ifSwapped", (x, row) -> x.ifSwapped(row, 0, 3, 1));
        noRow("22 ifSwapped, the other", (x, row) -> x.ifSwapped(3, 1, row, 0));
        nobody("22 ifSwapped", (x, place) -> x.ifSwapped(0, place, 3, 0),
            (x, place) -> x.ifSwapped(FULL, place, 3, 0), (x, place) -> x.ifSwapped(EMPTY, place, 3, 0));
        nobody("22 ifSwapped, the other", (x, place) -> x.ifSwapped(3, 0, 0, place),
            (x, place) -> x.ifSwapped(3, 0, FULL, place), (x, place) -> x.ifSwapped(3, 0, EMPTY, place));
        TWINS.refuses("22 ifSwapped: nobody at both places", INDEX, x -> x.ifSwapped(0, 3, 3, 2));
    }

    private static void bestSwapRowAndReach() {
        TWINS.within("23 bestSwap: no such row", INDEX, 0, 3, OddChoir::bestSwap);
        TWINS.within("24 bestRow: height out of range", ARGUMENT, 100, 220, OddChoir::bestRow);
        TWINS.within("25 ifReach: reach out of range", ARGUMENT, 1, 6, OddChoir::ifReach);
    }

    /** "If several exceptions apply, the one that is named first in the throws clause is thrown." */
    private static void firstNamed() {
        for (int row : new int[] {-1, 4}) {
            TWINS.refuses("first named: join, row and height", INDEX, x -> x.join(row, 221, 0));
            TWINS.refuses("first named: join, row and voice", INDEX, x -> x.join(row, 150, -1));
            TWINS.refuses("first named: join, row and both", INDEX, x -> x.join(row, 99, 4));
            TWINS.refuses("first named: grow, row and height", INDEX, x -> x.grow(row, 0, 99));
            TWINS.refuses("first named: sort, row and how", INDEX, x -> x.sort(row, 3));
            TWINS.refuses("first named: cross, row and the same", INDEX, x -> x.cross(row, 0, row));
            TWINS.refuses("first named: cross, row and a full one", INDEX, x -> x.cross(row, 0, FULL));
            TWINS.refuses("first named: written, row and index", INDEX, x -> x.written(row, -1));
        }
        TWINS.refuses("first named: join, height and a full row", ARGUMENT, x -> x.join(FULL, 221, 0));
        TWINS.refuses("first named: join, voice and a full row", ARGUMENT, x -> x.join(FULL, 150, 4));
        for (int place : new int[] {-1, 3, 6}) {
            TWINS.refuses("first named: grow, nobody and height", INDEX, x -> x.grow(0, place, 221));
            TWINS.refuses("first named: cross, nobody and the same row", INDEX, x -> x.cross(0, place, 0));
            TWINS.refuses("first named: cross, nobody and a full row", INDEX, x -> x.cross(0, place, FULL));
        }
        TWINS.refuses("first named: cross, nobody in the full row itself", INDEX, x -> x.cross(FULL, 6, FULL));
        TWINS.refuses("first named: set, setting and value", INDEX, x -> x.set(2, 0));
        TWINS.refuses("first named: set, setting -1 and value", INDEX, x -> x.set(-1, 7));
        TWINS.refuses("first named: append, code 32 and a full buffer", RefusalsTest::fullBuffer, ARGUMENT,
            x -> x.append(32));
        TWINS.refuses("first named: append, code 127 and a full buffer", RefusalsTest::fullBuffer, ARGUMENT,
            x -> x.append(127));
    }

    private static void firstNamedOfLooks() {
        for (int what : new int[] {-1, 8}) {
            TWINS.refuses("first named: singer, row -1 and what", INDEX, x -> x.singer(-1, 0, what));
            TWINS.refuses("first named: singer, row 4 and what", INDEX, x -> x.singer(4, 0, what));
            TWINS.refuses("first named: singer, nobody and what", INDEX, x -> x.singer(0, 3, what));
            TWINS.refuses("first named: singer, an empty row and what", INDEX, x -> x.singer(EMPTY, 0, what));
            TWINS.refuses("first named: row, row -1 and what", INDEX, x -> x.row(-1, what));
            TWINS.refuses("first named: row, row 4 and what", INDEX, x -> x.row(4, what));
        }
    }
}
