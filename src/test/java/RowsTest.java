/** Promises 7 to 9: turn, sort, set. */
public final class RowsTest {
    private static final Checks CHECKS = new Checks();
    private static final Class<IndexOutOfBoundsException> INDEX = IndexOutOfBoundsException.class;
    private static final Class<IllegalArgumentException> ARGUMENT = IllegalArgumentException.class;

    public static void main(String[] args) {
        turn();
        sort();
        set();
        CHECKS.close();
    }

    private static void turn() {
        OddChoir x = new OddChoir();
        Choirs.fill(x, 1, 150, 160, 170);
        CHECKS.due("turn", 1, () -> x.turn(1));
        CHECKS.compare("turn: row", "170b 160b 150b", Choirs.text(x, 1));
        CHECKS.compare("turn: numbers", "2 1 0", Choirs.numbers(x, 1));
        Choirs.fill(x, 0, 140);
        CHECKS.due("turn back: the row before hears another one", 1, () -> x.turn(1));
        CHECKS.due("turn counts all rows", 2, () -> x.turn(1));
        CHECKS.due("turn an empty row", 2, () -> x.turn(3));
        CHECKS.due("turn is undoable", 6, () -> x.count(8));
        CHECKS.refused("turn row -1", x, INDEX, () -> x.turn(-1));
        CHECKS.refused("turn row 4", x, INDEX, () -> x.turn(4));
        x.undo();
        x.undo();
        CHECKS.compare("turn undone", "150b 160b 170b", Choirs.text(x, 1));
        OddChoir y = new OddChoir();
        Choirs.fill(y, 0, 101, 102, 103, 104, 105, 106);
        y.turn(0);
        CHECKS.compare("turn six", "106b 105b 104b 103b 102b 101b", Choirs.text(y, 0));
        CHECKS.due("turn: no swaps are counted", 0, () -> y.count(4));
    }

    private static OddChoir unsorted() {
        OddChoir x = new OddChoir();
        x.join(2, 160, 3);
        x.join(2, 150, 1);
        x.join(2, 160, 0);
        x.join(2, 170, 1);
        x.join(2, 150, 0);
        return x;
    }

    private static void sort() {
        OddChoir low = unsorted();
        CHECKS.due("low: discord", 0, () -> low.sort(2, 0));
        CHECKS.compare("low", "150t 150b 160s 160b 170t", Choirs.text(low, 2));
        CHECKS.compare("low: those alike stay in order", "1 4 0 2 3", Choirs.numbers(low, 2));
        OddChoir high = unsorted();
        CHECKS.due("high: discord", 8, () -> high.sort(2, 1));
        CHECKS.compare("high: those alike stay in order", "3 0 2 1 4", Choirs.numbers(high, 2));
        OddChoir voice = unsorted();
        CHECKS.due("voice: discord", 3, () -> voice.sort(2, 2));
        CHECKS.compare("voice", "160b 150b 150t 170t 160s", Choirs.text(voice, 2));
        CHECKS.compare("voice: those alike stay in order", "2 4 1 3 0", Choirs.numbers(voice, 2));
        CHECKS.due("sort: no swaps are counted", 0, () -> voice.count(4));
        CHECKS.due("sort an empty row", 0, () -> voice.sort(0, 2));
        CHECKS.due("sort is undoable", 6, () -> voice.count(8));
        voice.undo();
        voice.undo();
        CHECKS.compare("sort undone", "0 1 2 3 4", Choirs.numbers(voice, 2));
        CHECKS.refused("sort row -1", low, INDEX, () -> low.sort(-1, 3));
        CHECKS.refused("sort row 4", low, INDEX, () -> low.sort(4, 0));
        CHECKS.refused("sort how -1", low, ARGUMENT, () -> low.sort(2, -1));
        CHECKS.refused("sort how 3", low, ARGUMENT, () -> low.sort(2, 3));
    }

    private static void set() {
        OddChoir x = new OddChoir();
        Choirs.fill(x, 0, 200, 190, 180);
        Choirs.fill(x, 1, 210, 100);
        CHECKS.due("set reach 1", 6, () -> x.set(0, 1));
        CHECKS.due("set reach 6", 1, () -> x.set(0, 6));
        CHECKS.due("set not behind", 1, () -> x.set(1, 0));
        CHECKS.due("set: own row only", 2, () -> x.singer(0, 2, 3));
        CHECKS.due("set behind", 0, () -> x.set(1, 1));
        CHECKS.due("set: both rows", 4, () -> x.singer(0, 2, 3));
        CHECKS.due("set to what it is", 1, () -> x.set(1, 1));
        CHECKS.due("set is undoable, also if nothing changes", 6, () -> x.count(8));
        CHECKS.refused("set setting -1", x, INDEX, () -> x.set(-1, 1));
        CHECKS.refused("set setting 2", x, INDEX, () -> x.set(2, 9));
        CHECKS.refused("set reach 0", x, ARGUMENT, () -> x.set(0, 0));
        CHECKS.refused("set reach 7", x, ARGUMENT, () -> x.set(0, 7));
        CHECKS.refused("set behind -1", x, ARGUMENT, () -> x.set(1, -1));
        CHECKS.refused("set behind 2", x, ARGUMENT, () -> x.set(1, 2));
        x.undo();
        x.undo();
        CHECKS.due("set undone", 0, () -> x.count(7));
        x.undo();
        x.undo();
        CHECKS.due("set undone: reach", 1, () -> x.count(6));
    }
}
