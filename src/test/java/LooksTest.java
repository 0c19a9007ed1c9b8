/** Promises 18 to 21: singer, row, find, count. */
public final class LooksTest {
    private static final Checks CHECKS = new Checks();
    private static final Class<IndexOutOfBoundsException> INDEX = IndexOutOfBoundsException.class;
    private static final Class<IllegalArgumentException> ARGUMENT = IllegalArgumentException.class;

    public static void main(String[] args) {
        singer();
        singerWithShortReach();
        singerOfTheLastRow();
        higherOnesOnly();
        singerRefused();
        row();
        mostAndWay();
        mostWithTheRowBehind();
        wayAskedFirst();
        rowRefused();
        find();
        count();
        CHECKS.close();
    }

    private static OddChoir twoRows() {
        OddChoir x = new OddChoir();
        Choirs.fill(x, 0, 180, 160, 170, 160, 150, 175);
        Choirs.fill(x, 1, 200, 165, 140, 171);
        return x;
    }

    private static void singerDue(OddChoir x, int row, int place, int what, int... dues) {
        for (int i = 0; i < dues.length; i++) {
            int which = place + i;
            int due = dues[i];
            CHECKS.due("singer " + row + " " + which + " " + what, due, () -> x.singer(row, which, what));
        }
    }

    private static void singer() {
        OddChoir x = twoRows();
        x.join(1, 155, 3);
        singerDue(x, 0, 0, 0, 0, 1, 2, 3, 4, 5);
        singerDue(x, 0, 0, 1, 180, 160, 170, 160, 150, 175);
        singerDue(x, 1, 3, 2, 0, 3);
        singerDue(x, 0, 0, 3, 1, 3, 5, 7, 9, 10);
        singerDue(x, 0, 0, 4, 1, 3, 2, 5, 8, 2);
        singerDue(x, 0, 0, 5, 1, 3, 2, 5, 8, 2);
        singerDue(x, 0, 0, 6, 1, 1, 0, 1, 0, 0);
        singerDue(x, 0, 0, 7, 5, 4, 3, 2, 1, 0);
        singerDue(x, 1, 0, 3, 0, 1, 2, 3, 4);
        singerDue(x, 1, 0, 4, 0, 1, 2, 1, 3);
        singerDue(x, 1, 0, 5, 0, 1, 2, 1, 3);
        singerDue(x, 1, 0, 6, 0, 1, 0, 1, 1);
        singerDue(x, 1, 0, 7, 10, 8, 6, 4, 2);
    }

    private static void singerWithShortReach() {
        OddChoir x = twoRows();
        x.set(0, 2);
        singerDue(x, 0, 0, 3, 1, 3, 5, 5, 4, 3);
        singerDue(x, 0, 0, 4, 1, 3, 2, 3, 3, 0);
        singerDue(x, 0, 0, 5, 1, 3, 2, 3, 3, 0);
        singerDue(x, 0, 0, 7, 2, 2, 2, 2, 1, 0);
        singerDue(x, 1, 0, 7, 5, 5, 4, 3);
        x.set(1, 0);
        singerDue(x, 0, 0, 3, 0, 1, 2, 2, 2, 2);
        singerDue(x, 1, 0, 7, 2, 2, 1, 0);
        x.set(0, 1);
        singerDue(x, 0, 0, 4, 0, 1, 0, 1, 1, 0);
        singerDue(x, 0, 0, 6, 0, 1, 0, 1, 1, 0);
    }

    private static void singerOfTheLastRow() {
        OddChoir x = new OddChoir();
        Choirs.fill(x, 3, 170, 160);
        Choirs.fill(x, 2, 150);
        Choirs.fill(x, 0, 110);
        singerDue(x, 3, 0, 3, 0, 1);
        singerDue(x, 2, 0, 3, 1);
        singerDue(x, 0, 0, 3, 0);
        singerDue(x, 3, 0, 7, 2, 0);
        singerDue(x, 0, 0, 7, 0);
    }

    private static void higherOnesOnly() {
        OddChoir x = new OddChoir();
        Choirs.fill(x, 0, 150, 150, 151, 150, 149);
        singerDue(x, 0, 0, 4, 0, 0, 0, 1, 4);
        singerDue(x, 0, 0, 5, 0, 0, 0, 1, 4);
    }

    private static void singerRefused() {
        OddChoir x = twoRows();
        CHECKS.refused("singer of row -1", x, INDEX, () -> x.singer(-1, 0, 8));
        CHECKS.refused("singer of row 4", x, INDEX, () -> x.singer(4, 0, 0));
        CHECKS.refused("singer at place -1", x, INDEX, () -> x.singer(0, -1, 0));
        CHECKS.refused("singer at place 6", x, INDEX, () -> x.singer(0, 6, 0));
        CHECKS.refused("singer who is not", x, INDEX, () -> x.singer(1, 4, 9));
        CHECKS.refused("singer: what -1", x, ARGUMENT, () -> x.singer(0, 0, -1));
        CHECKS.refused("singer: what 8", x, ARGUMENT, () -> x.singer(0, 0, 8));
    }

    private static void rowDue(OddChoir x, int row, int... dues) {
        for (int what = 0; what < dues.length; what++) {
            int which = what;
            CHECKS.due("row " + row + " " + what, dues[what], () -> x.row(row, which));
        }
    }

    private static void row() {
        OddChoir x = twoRows();
        rowDue(x, 0, 6, 4, 9, 1, 6, 6, 180);
        rowDue(x, 1, 4, 2, 4, 0, 3, 1, 200);
        rowDue(x, 2, 0, 0, 0, 0, 0, 0, OddChoir.NONE);
        x.join(3, 100, 0);
        rowDue(x, 3, 1, 0, 0, 0, 0, 0, 100);
    }

    private static void mostAndWay() {
        OddChoir x = new OddChoir();
        Choirs.fill(x, 3, 150, 150, 150);
        rowDue(x, 3, 3, 0, 0, 0, 0, 0, 150);
        OddChoir y = new OddChoir();
        Choirs.fill(y, 3, 100, 200);
        rowDue(y, 3, 2, 0, 0, 0, 1, 1, 200);
        OddChoir z = new OddChoir();
        Choirs.fill(z, 3, 100, 110, 120);
        // 120 100 110 has two odd ones, and 120 passes two neighbours for it
        rowDue(z, 3, 3, 0, 0, 0, 2, 2, 120);
        z.set(0, 1);
        // 120 110 100 has them only with a short ear, but lies farther off than 120 100 110 does from one odd one
        rowDue(z, 3, 3, 0, 0, 0, 2, 3, 120);
    }

    private static void mostWithTheRowBehind() {
        OddChoir x = new OddChoir();
        Choirs.fill(x, 2, 150, 160);
        Choirs.fill(x, 3, 155);
        // 150 hears 155 anywhere; 160 is odd nowhere; 150 at the right end would hear two higher ones
        rowDue(x, 2, 2, 1, 0, 0, 1, 0, 160);
        x.turn(2);
        rowDue(x, 2, 2, 0, 1, 1, 1, 1, 160);
        x.set(1, 0);
        rowDue(x, 2, 2, 1, 1, 1, 1, 0, 160);
        OddChoir y = new OddChoir();
        Choirs.fill(y, 2, 100, 110, 140, 120);
        Choirs.fill(y, 3, 125, 115, 145);
        // 110 100 140 120 has all four by one swap, as other orders have by more
        rowDue(y, 2, 4, 3, 1, 1, 4, 1, 140);
        OddChoir z = new OddChoir();
        Choirs.fill(z, 2, 100, 100, 100);
        Choirs.fill(z, 3, 200);
        z.set(0, 1);
        // an ear that reaches 1 hears the first of the row behind from the places 0 and 1
        rowDue(z, 2, 3, 2, 0, 0, 2, 0, 100);
    }

    private static void wayAskedFirst() {
        OddChoir x = new OddChoir();
        Choirs.fill(x, 1, 100, 200);
        Choirs.fill(x, 3, 100, 110, 120);
        CHECKS.due("the way before the most", 2, () -> x.row(3, 5));
        CHECKS.due("the way of another row", 1, () -> x.row(1, 5));
        CHECKS.due("the most of the first row", 2, () -> x.row(3, 4));
        x.turn(1);
        CHECKS.due("the way after a turn", 0, () -> x.row(1, 5));
    }

    private static void rowRefused() {
        OddChoir x = twoRows();
        CHECKS.refused("row -1", x, INDEX, () -> x.row(-1, 7));
        CHECKS.refused("row 4", x, INDEX, () -> x.row(4, 0));
        CHECKS.refused("row: what -1", x, ARGUMENT, () -> x.row(0, -1));
        CHECKS.refused("row: what 7", x, ARGUMENT, () -> x.row(0, 7));
    }

    private static void find() {
        OddChoir x = twoRows();
        CHECKS.due("find the first", 0, () -> x.find(0));
        CHECKS.due("find the end of row 0", 5, () -> x.find(5));
        CHECKS.due("find in row 1", 8, () -> x.find(8));
        x.cross(0, 1, 3);
        CHECKS.due("find who crossed", 18, () -> x.find(1));
        CHECKS.due("find who moved to the left", 1, () -> x.find(2));
        CHECKS.due("find who did not come", OddChoir.NONE, () -> x.find(10));
        CHECKS.due("find nobody so far", OddChoir.NONE, () -> x.find(Integer.MAX_VALUE));
        x.leave(0, 0);
        CHECKS.due("find who left", OddChoir.NONE, () -> x.find(0));
        CHECKS.refused("find -1", x, ARGUMENT, () -> x.find(-1));
        CHECKS.refused("find the lowest int", x, ARGUMENT, () -> x.find(Integer.MIN_VALUE));
    }

    private static void count() {
        OddChoir x = twoRows();
        x.swap(0, 0, 0, 0);
        x.leave(1, 3);
        x.set(0, 4);
        x.set(1, 0);
        int[] dues = {9, 3, 10, 1, 1, 12, 4, 0, 6};
        for (int what = 0; what <= 8; what++) {
            int which = what;
            CHECKS.due("count " + what, dues[what], () -> x.count(which));
        }
        CHECKS.refused("count -1", x, ARGUMENT, () -> x.count(-1));
        CHECKS.refused("count 9", x, ARGUMENT, () -> x.count(9));
        CHECKS.due("looks save nothing", 6, () -> x.count(8));
    }
}
