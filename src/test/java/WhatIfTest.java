/** Promises 22 to 27: ifSwapped, bestSwap, bestRow, ifReach, oddShare, digest. */
public final class WhatIfTest {
    private static final Checks CHECKS = new Checks();
    private static final Class<IndexOutOfBoundsException> INDEX = IndexOutOfBoundsException.class;
    private static final Class<IllegalArgumentException> ARGUMENT = IllegalArgumentException.class;

    public static void main(String[] args) {
        ifSwapped();
        bestSwap();
        bestSwapOfSeveral();
        bestRow();
        bestRowOfSeveral();
        ifReach();
        oddShare();
        digestOfNew();
        digestOfSome();
        digestOfThirds();
        digestOfSmallShares();
        digestHearsOfAll();
        CHECKS.close();
    }

    private static OddChoir twoRows() {
        OddChoir x = new OddChoir();
        Choirs.fill(x, 0, 180, 160, 170, 160, 150, 175);
        Choirs.fill(x, 1, 200, 165, 140, 171);
        return x;
    }

    private static void ifSwapped() {
        OddChoir x = twoRows();
        long before = x.digest();
        CHECKS.due("ifSwapped of neighbours", 6, () -> x.ifSwapped(0, 0, 0, 1));
        CHECKS.due("ifSwapped of unlike rows", 6, () -> x.ifSwapped(0, 0, 1, 3));
        CHECKS.due("ifSwapped with itself", 6, () -> x.ifSwapped(1, 2, 1, 2));
        CHECKS.due("ifSwapped best", 7, () -> x.ifSwapped(0, 0, 0, 2));
        CHECKS.compare("ifSwapped changes nothing", before, x.digest());
        CHECKS.due("ifSwapped tells what swap brings", 7, () -> x.swap(0, 0, 0, 2));
        CHECKS.refused("ifSwapped row -1", x, INDEX, () -> x.ifSwapped(-1, 0, 0, 0));
        CHECKS.refused("ifSwapped other row 4", x, INDEX, () -> x.ifSwapped(0, 0, 4, 0));
        CHECKS.refused("ifSwapped nobody", x, INDEX, () -> x.ifSwapped(2, 0, 0, 0));
        CHECKS.refused("ifSwapped with nobody", x, INDEX, () -> x.ifSwapped(0, 0, 1, 4));
        CHECKS.refused("ifSwapped place -1", x, INDEX, () -> x.ifSwapped(0, -1, 1, 0));
        CHECKS.refused("ifSwapped other place -1", x, INDEX, () -> x.ifSwapped(0, 0, 1, -1));
    }

    private static void bestSwap() {
        OddChoir x = twoRows();
        long before = x.digest();
        CHECKS.due("bestSwap", 2, () -> x.bestSwap(0));
        CHECKS.due("bestSwap of an empty row", OddChoir.NONE, () -> x.bestSwap(2));
        CHECKS.compare("bestSwap changes nothing", before, x.digest());
        x.join(3, 150, 0);
        CHECKS.due("bestSwap of one", OddChoir.NONE, () -> x.bestSwap(3));
        x.join(3, 150, 0);
        CHECKS.due("bestSwap that brings no more", OddChoir.NONE, () -> x.bestSwap(3));
        CHECKS.refused("bestSwap row -1", x, INDEX, () -> x.bestSwap(-1));
        CHECKS.refused("bestSwap row 4", x, INDEX, () -> x.bestSwap(4));
    }

    private static void bestSwapOfSeveral() {
        OddChoir x = new OddChoir();
        Choirs.fill(x, 3, 100, 100, 200);
        // 200 100 100 has two odd ones, 100 200 100 one
        CHECKS.due("bestSwap: the most, not the first", 2, () -> x.bestSwap(3));
        OddChoir y = new OddChoir();
        Choirs.fill(y, 3, 100, 200);
        Choirs.fill(y, 2, 150, 150);
        // now 150 hears 100 and 150 hears one higher; swapped they hear 200 both, and 100 hears 200
        CHECKS.due("bestSwap: singers of all rows are counted", 1, () -> y.bestSwap(3));
        OddChoir z = new OddChoir();
        Choirs.fill(z, 1, 100, 110, 120);
        // 110 100 120 and 100 120 110 have one odd one, 120 110 100 one: the first is taken
        CHECKS.due("bestSwap: of several the lowest places", 1, () -> z.bestSwap(1));
    }

    private static void bestRow() {
        OddChoir x = twoRows();
        long before = x.digest();
        x.swap(0, 0, 1, 3);
        CHECKS.due("bestRow of the highest", 1, () -> x.bestRow(220));
        CHECKS.due("bestRow of the lowest", 1, () -> x.bestRow(100));
        x.undo();
        OddChoir y = twoRows();
        CHECKS.compare("bestRow changes nothing", before, y.digest());
        y.bestRow(150);
        CHECKS.compare("bestRow changes nothing", before, y.digest());
        CHECKS.refused("bestRow 99", x, ARGUMENT, () -> x.bestRow(99));
        CHECKS.refused("bestRow 221", x, ARGUMENT, () -> x.bestRow(221));
    }

    private static void bestRowOfSeveral() {
        OddChoir x = new OddChoir();
        CHECKS.due("bestRow of empty rows", 0, () -> x.bestRow(160));
        Choirs.fill(x, 2, 200);
        // hears 200 at the right end of row 1 as well as beside it in row 2
        CHECKS.due("bestRow: of several the lowest", 1, () -> x.bestRow(160));
        // not odd anywhere, but the one of row 2 is then
        CHECKS.due("bestRow: others are counted too", 3, () -> x.bestRow(220));
        for (int row = 0; row < 3; row++) {
            while (x.row(row, 0) < 6) {
                x.join(row, 150, 0);
            }
        }
        CHECKS.due("bestRow: only rows with room", 3, () -> x.bestRow(100));
        Choirs.fill(x, 3, 150, 150, 150, 150, 150);
        CHECKS.due("bestRow: the last room", 3, () -> x.bestRow(100));
        Choirs.fill(x, 3, 150);
        CHECKS.due("bestRow without room", OddChoir.NONE, () -> x.bestRow(100));
        CHECKS.refused("bestRow without room, too high", x, ARGUMENT, () -> x.bestRow(221));
    }

    private static void ifReach() {
        OddChoir x = twoRows();
        x.swap(0, 0, 1, 3);
        long before = x.digest();
        int[] dues = {4, 6, 7, 7, 6, 6};
        for (int reach = 1; reach <= 6; reach++) {
            int far = reach;
            CHECKS.due("ifReach " + reach, dues[reach - 1], () -> x.ifReach(far));
        }
        CHECKS.compare("ifReach changes nothing", before, x.digest());
        CHECKS.refused("ifReach 0", x, ARGUMENT, () -> x.ifReach(0));
        CHECKS.refused("ifReach 7", x, ARGUMENT, () -> x.ifReach(7));
        CHECKS.due("ifReach of nobody", 0, () -> new OddChoir().ifReach(1));
        OddChoir y = twoRows();
        CHECKS.due("ifReach asked first", 6, () -> y.ifReach(6));
    }

    private static void oddShare() {
        OddChoir x = new OddChoir();
        CHECKS.compare("oddShare without singers", 1.0, x.oddShare());
        x.join(0, 200, 0);
        CHECKS.compare("oddShare of none", 0.0, x.oddShare());
        x.join(0, 100, 0);
        CHECKS.compare("oddShare of a half", 0.5, x.oddShare());
        x.join(0, 110, 0);
        CHECKS.compare("oddShare of two thirds", 2.0 / 3.0, x.oddShare());
        x.leave(0, 0);
        x.leave(0, 0);
        x.leave(0, 0);
        CHECKS.compare("oddShare without singers again", 1.0, x.oddShare());
    }

    private static long hash(long... values) {
        long hash = 3637L;
        for (long value : values) {
            hash = 31L * hash + value;
        }
        return hash;
    }

    private static void digestOfNew() {
        long one = Double.doubleToLongBits(1.0);
        CHECKS.compare("digest of a new object", hash(
            0, 0, 0, 0, 0, 0, 6, 1, 0,
            0, 0, 0, 0, 0, 0, -1, -1,
            0, 0, 0, 0, 0, 0, -1, -1,
            0, 0, 0, 0, 0, 0, -1, -1,
            0, 0, 0, 0, 0, 0, -1, -1,
            0, 0, 0, 0, 0, 0, 0, one, 0), new OddChoir().digest());
    }

    private static void digestOfSome() {
        OddChoir x = new OddChoir();
        x.join(1, 100, 2);
        x.join(1, 200, 1);
        Choirs.type(x, "lo");
        CHECKS.compare("digest of two", hash(
            2, 0, 2, 0, 0, 0, 6, 1, 2,
            0, 0, 0, 0, 0, 0, -1, -1,
            2, 0, 0, 0, 1, 1, 200,
            0, 100, 2, 0, 0, 0, 0, 1,
            1, 200, 1, 1, 0, 0, 0, 0,
            1,
            '1', '0', '0', 'a', ' ', '2', '0', '0', 't',
            0, 0, 0, 0, 0, 0, -1, -1,
            0, 0, 0, 0, 0, 0, -1, -1,
            1,
            0, 0, 0, 0, 0, 0, 0L, 2, 'l', 'o'), x.digest());
    }

    private static void digestOfThirds() {
        OddChoir x = new OddChoir();
        Choirs.fill(x, 3, 200, 100, 110);
        CHECKS.compare("digest of three", hash(
            3, 2, 3, 0, 0, 2, 6, 1, 3,
            0, 0, 0, 0, 0, 0, -1, -1,
            0, 0, 0, 0, 0, 0, -1, -1,
            0, 0, 0, 0, 0, 0, -1, -1,
            3, 2, 2, 0, 2, 0, 200,
            0, 200, 0, 0, 0, 0, 0, 2,
            1, 100, 0, 1, 1, 1, 1, 1,
            2, 110, 0, 2, 1, 1, 1, 0,
            -1,
            '2', '0', '0', 'b', ' ', '1', '0', '0', 'b', ' ', '1', '1', '0', 'b',
            2,
            1, 2, 2, 2, 2, 2, Double.doubleToLongBits(2.0 / 3.0), 0), x.digest());
    }

    private static void digestOfSmallShares() {
        for (int odd = 0; odd < 6; odd++) {
            OddChoir x = new OddChoir();
            Model model = new Model();
            for (int singer = 0; singer < 24; singer++) {
                x.join(singer / 6, 150, 0);
                model.join(singer / 6, 150, 0);
            }
            // in the front row only those to the right hear this one
            x.grow(0, 5 - odd, 151);
            model.grow(0, 5 - odd, 151);
            CHECKS.compare("share of " + odd, odd / 24.0, x.oddShare());
            CHECKS.compare("digest with a share of " + odd, model.digest(), x.digest());
        }
    }

    /** The digest differs after each call that changes something; RunsTest compares it with a model's. */
    private static void digestHearsOfAll() {
        OddChoir x = twoRows();
        long before = x.digest();
        x.append('l');
        CHECKS.holds("digest: the buffer", before != x.digest());
        x.clearBuffer();
        CHECKS.compare("digest: the buffer as before", before, x.digest());
        x.keep();
        CHECKS.compare("digest: the snapshot is no part of it", before, x.digest());
        x.set(0, 6);
        x.undo();
        CHECKS.holds("digest: the saved states", before != x.digest());
    }
}
