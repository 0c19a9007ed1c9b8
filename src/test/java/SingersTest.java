/** Promises 1 to 6: a new object, join, leave, grow, swap, cross. */
public final class SingersTest {
    private static final Checks CHECKS = new Checks();
    private static final Class<IndexOutOfBoundsException> INDEX = IndexOutOfBoundsException.class;
    private static final Class<IllegalArgumentException> ARGUMENT = IllegalArgumentException.class;
    private static final Class<IllegalStateException> STATE = IllegalStateException.class;

    public static void main(String[] args) {
        newObject();
        join();
        joinRefused();
        leave();
        grow();
        swap();
        cross();
        CHECKS.close();
    }

    private static void newObject() {
        OddChoir x = new OddChoir();
        int[] counts = {0, 0, 0, 0, 0, 0, 6, 1, 0};
        for (int what = 0; what <= 8; what++) {
            int which = what;
            CHECKS.due("new: count " + what, counts[what], () -> x.count(which));
        }
        for (int row = 0; row < 4; row++) {
            int which = row;
            CHECKS.due("new: size of row " + row, 0, () -> x.row(which, 0));
            CHECKS.due("new: text of row " + row, OddChoir.NONE, () -> x.written(which, 0));
        }
        CHECKS.due("new: the buffer is empty", 0, x::clearBuffer);
        CHECKS.due("NONE", -1, () -> OddChoir.NONE);
        CHECKS.refused("new: no snapshot", x, STATE, x::restore);
        CHECKS.refused("new: no saved state", x, STATE, x::undo);
    }

    private static void join() {
        OddChoir x = new OddChoir();
        CHECKS.due("join lowest", 0, () -> x.join(0, 100, 0));
        CHECKS.due("join highest", 1, () -> x.join(3, 220, 3));
        CHECKS.due("join to the right", 2, () -> x.join(0, 160, 2));
        CHECKS.compare("join: row 0", "100b 160a", Choirs.text(x, 0));
        CHECKS.compare("join: row 3", "220s", Choirs.text(x, 3));
        CHECKS.compare("join: numbers", "0 2", Choirs.numbers(x, 0));
        CHECKS.due("join: singers", 3, () -> x.count(0));
        CHECKS.due("join: came", 3, () -> x.count(2));
        CHECKS.due("join is undoable", 3, () -> x.count(8));
        CHECKS.due("join undone", 2, x::undo);
        CHECKS.compare("join undone: row 0", "100b", Choirs.text(x, 0));
        CHECKS.due("join: the number of the one undone comes again", 2, () -> x.join(1, 150, 1));
        x.leave(1, 0);
        CHECKS.due("join: the number of one who left does not", 3, () -> x.join(1, 150, 1));
    }

    private static void joinRefused() {
        OddChoir x = new OddChoir();
        Choirs.fill(x, 1, 150, 151, 152, 153, 154, 155);
        CHECKS.refused("join row -1", x, INDEX, () -> x.join(-1, 99, 4));
        CHECKS.refused("join row 4", x, INDEX, () -> x.join(4, 150, 0));
        CHECKS.refused("join height 99", x, ARGUMENT, () -> x.join(0, 99, 0));
        CHECKS.refused("join height 221", x, ARGUMENT, () -> x.join(0, 221, 0));
        CHECKS.refused("join voice -1", x, ARGUMENT, () -> x.join(0, 150, -1));
        CHECKS.refused("join voice 4", x, ARGUMENT, () -> x.join(0, 150, 4));
        CHECKS.refused("join a full row", x, STATE, () -> x.join(1, 150, 0));
        CHECKS.refused("join a full row too high", x, ARGUMENT, () -> x.join(1, 221, 0));
        CHECKS.refused("join a full row without voice", x, ARGUMENT, () -> x.join(1, 220, 9));
        CHECKS.refused("join far off", x, INDEX, () -> x.join(Integer.MIN_VALUE, Integer.MAX_VALUE, 0));
        CHECKS.due("join another row", 6, () -> x.join(0, 150, 0));
    }

    private static void leave() {
        OddChoir x = new OddChoir();
        x.join(2, 150, 0);
        x.join(2, 160, 1);
        x.join(2, 170, 2);
        CHECKS.due("leave the middle", 1, () -> x.leave(2, 1));
        CHECKS.compare("leave: the row", "150b 170a", Choirs.text(x, 2));
        CHECKS.compare("leave: its numbers", "0 2", Choirs.numbers(x, 2));
        CHECKS.due("leave: singers", 2, () -> x.count(0));
        CHECKS.due("leave: left", 1, () -> x.count(3));
        CHECKS.due("leave: came", 3, () -> x.count(2));
        CHECKS.due("leave: not in a row", OddChoir.NONE, () -> x.find(1));
        CHECKS.due("leave is undoable", 4, () -> x.count(8));
        CHECKS.refused("leave row -1", x, INDEX, () -> x.leave(-1, 0));
        CHECKS.refused("leave row 4", x, INDEX, () -> x.leave(4, 0));
        CHECKS.refused("leave place -1", x, INDEX, () -> x.leave(2, -1));
        CHECKS.refused("leave an empty place", x, INDEX, () -> x.leave(2, 2));
        CHECKS.refused("leave an empty row", x, INDEX, () -> x.leave(0, 0));
        CHECKS.refused("leave place 6", x, INDEX, () -> x.leave(1, 6));
        CHECKS.due("leave the first", 0, () -> x.leave(2, 0));
        CHECKS.due("leave the last", 2, () -> x.leave(2, 0));
        CHECKS.due("leave: nobody", 0, () -> x.row(2, 0));
        x.undo();
        x.undo();
        x.undo();
        CHECKS.compare("leave undone", "150b 160t 170a", Choirs.text(x, 2));
        CHECKS.due("leave undone: left", 0, () -> x.count(3));
    }

    private static void grow() {
        OddChoir x = new OddChoir();
        x.join(0, 150, 3);
        x.join(0, 160, 1);
        CHECKS.due("grow to the lowest", 160, () -> x.grow(0, 1, 100));
        CHECKS.due("grow to the highest", 100, () -> x.grow(0, 1, 220));
        CHECKS.compare("grow: row", "150s 220t", Choirs.text(x, 0));
        CHECKS.compare("grow: numbers stay", "0 1", Choirs.numbers(x, 0));
        CHECKS.due("grow is undoable", 4, () -> x.count(8));
        CHECKS.refused("grow row 4", x, INDEX, () -> x.grow(4, 0, 99));
        CHECKS.refused("grow row -1", x, INDEX, () -> x.grow(-1, 0, 150));
        CHECKS.refused("grow nobody", x, INDEX, () -> x.grow(0, 2, 221));
        CHECKS.refused("grow place -1", x, INDEX, () -> x.grow(0, -1, 150));
        CHECKS.refused("grow to 99", x, ARGUMENT, () -> x.grow(0, 0, 99));
        CHECKS.refused("grow to 221", x, ARGUMENT, () -> x.grow(0, 0, 221));
        CHECKS.due("grow undone", 3, x::undo);
        CHECKS.compare("grow undone: row", "150s 100t", Choirs.text(x, 0));
    }

    private static void swap() {
        OddChoir x = new OddChoir();
        x.join(0, 150, 0);
        x.join(0, 160, 1);
        x.join(3, 170, 2);
        CHECKS.due("swap of neighbours", 1, () -> x.swap(0, 0, 0, 1));
        CHECKS.compare("swap: row", "160t 150b", Choirs.text(x, 0));
        CHECKS.compare("swap: numbers", "1 0", Choirs.numbers(x, 0));
        CHECKS.due("swap of unlike rows", 1, () -> x.swap(3, 0, 0, 0));
        CHECKS.compare("swap: row 0", "170a 150b", Choirs.text(x, 0));
        CHECKS.compare("swap: row 3", "160t", Choirs.text(x, 3));
        CHECKS.due("swap with itself", 1, () -> x.swap(3, 0, 3, 0));
        CHECKS.due("swap: all are counted", 3, () -> x.count(4));
        CHECKS.due("swap is undoable", 6, () -> x.count(8));
        CHECKS.refused("swap row -1", x, INDEX, () -> x.swap(-1, 0, 0, 0));
        CHECKS.refused("swap other row 4", x, INDEX, () -> x.swap(0, 0, 4, 0));
        CHECKS.refused("swap nobody", x, INDEX, () -> x.swap(0, 2, 0, 0));
        CHECKS.refused("swap with nobody", x, INDEX, () -> x.swap(0, 0, 3, 1));
        CHECKS.refused("swap place -1", x, INDEX, () -> x.swap(0, -1, 0, 0));
        CHECKS.refused("swap other place -1", x, INDEX, () -> x.swap(0, 0, 0, -1));
        x.undo();
        x.undo();
        CHECKS.compare("swap undone", "160t 150b", Choirs.text(x, 0));
        CHECKS.due("swap undone: count", 1, () -> x.count(4));
    }

    private static void cross() {
        OddChoir x = new OddChoir();
        x.join(0, 150, 0);
        x.join(0, 160, 1);
        x.join(0, 170, 2);
        Choirs.fill(x, 2, 180, 181, 182, 183, 184, 185);
        CHECKS.due("cross to an empty row", 0, () -> x.cross(0, 0, 3));
        CHECKS.due("cross to the right end", 1, () -> x.cross(0, 1, 3));
        CHECKS.compare("cross: row 0", "160t", Choirs.text(x, 0));
        CHECKS.compare("cross: row 3", "150b 170a", Choirs.text(x, 3));
        CHECKS.compare("cross: numbers", "0 2", Choirs.numbers(x, 3));
        CHECKS.due("cross: nobody left", 0, () -> x.count(3));
        CHECKS.due("cross: nobody came", 9, () -> x.count(2));
        CHECKS.refused("cross from row 4", x, INDEX, () -> x.cross(4, 0, 0));
        CHECKS.refused("cross to row -1", x, INDEX, () -> x.cross(0, 0, -1));
        CHECKS.refused("cross to row 4", x, INDEX, () -> x.cross(0, 0, 4));
        CHECKS.refused("cross of nobody", x, INDEX, () -> x.cross(0, 1, 3));
        CHECKS.refused("cross of nobody to a full row", x, INDEX, () -> x.cross(0, 1, 2));
        CHECKS.refused("cross of nobody to the same row", x, INDEX, () -> x.cross(1, 0, 1));
        CHECKS.refused("cross to the same row", x, STATE, () -> x.cross(0, 0, 0));
        CHECKS.refused("cross to a full row", x, STATE, () -> x.cross(0, 0, 2));
        CHECKS.due("cross from a full row", 1, () -> x.cross(2, 5, 0));
        CHECKS.compare("cross: row 0 then", "160t 185b", Choirs.text(x, 0));
        x.undo();
        x.undo();
        CHECKS.compare("cross undone: row 0", "160t 170a", Choirs.text(x, 0));
        CHECKS.compare("cross undone: row 3", "150b", Choirs.text(x, 3));
    }
}
