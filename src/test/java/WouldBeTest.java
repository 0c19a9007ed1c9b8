import java.math.BigInteger;
import java.util.ArrayList;
import java.util.List;
import java.util.Random;

/** What would be, by the document's words and at its borders: promises 22 to 27, and what is counted in 21. */
public final class WouldBeTest {
    private static final Checks CHECKS = new Checks();

    public static void main(String[] args) {
        asDoneAndUndone();
        ifSwappedWithItself();
        bestSwapOfFew();
        bestSwapMoreThanNow();
        bestSwapOfSeveral();
        bestSwapOfAllRows();
        bestSwapLastPair();
        bestRowBorders();
        bestRowOfSeveral();
        bestRowThisOneToo();
        ifReachBorders();
        oddShareBorders();
        digestStart();
        digestOverflow();
        digestOfEachPart();
        CHECKS.close();
    }

    private static OddChoir row(int row, int... heights) {
        OddChoir x = new OddChoir();
        Choirs.fill(x, row, heights);
        return x;
    }

    private static OddChoir some(Random chance) {
        OddChoir x = new OddChoir();
        for (int row = 0; row < 4; row++) {
            int size = chance.nextInt(7);
            for (int place = 0; place < size; place++) {
                x.join(row, 100 + 10 * chance.nextInt(13), chance.nextInt(4));
            }
        }
        x.set(0, 1 + chance.nextInt(6));
        x.set(1, chance.nextInt(3) == 0 ? 0 : 1);
        return x;
    }

    /** Each question is answered by doing what it asks for, counting, and taking it back. */
    private static void asDoneAndUndone() {
        Random chance = new Random(5);
        for (int run = 0; run < 150; run++) {
            OddChoir x = some(chance);
            String told = " of run " + run;
            int row = run % 4;
            CHECKS.due("23 bestSwap" + told, bestSwapByDoing(x, row), () -> x.bestSwap(row));
            int height = 100 + run * 7 % 121;
            CHECKS.due("24 bestRow" + told, bestRowByDoing(x, height), () -> x.bestRow(height));
            int reach = 1 + run % 6;
            x.set(0, reach);
            int odd = x.count(1);
            x.undo();
            CHECKS.due("25 ifReach" + told, odd, () -> x.ifReach(reach));
            if (x.row(row, 0) > 0 && x.row(3 - row, 0) > 0) {
                int place = x.row(row, 0) - 1;
                int swapped = x.swap(row, place, 3 - row, 0);
                x.undo();
                CHECKS.due("22 ifSwapped" + told, swapped, () -> x.ifSwapped(row, place, 3 - row, 0));
            }
        }
    }

    private static int bestSwapByDoing(OddChoir x, int row) {
        int best = OddChoir.NONE;
        int most = x.count(1);
        int size = x.row(row, 0);
        for (int first = 0; first < size; first++) {
            for (int second = first + 1; second < size; second++) {
                int odd = x.swap(row, first, row, second);
                x.undo();
                if (odd > most) {
                    most = odd;
                    best = 6 * first + second;
                }
            }
        }
        return best;
    }

    private static int bestRowByDoing(OddChoir x, int height) {
        int best = OddChoir.NONE;
        int most = -1;
        for (int row = 0; row < 4; row++) {
            if (x.row(row, 0) < 6) {
                x.join(row, height, 3);
                if (x.count(1) > most) {
                    most = x.count(1);
                    best = row;
                }
                x.undo();
            }
        }
        return best;
    }

    private static void ifSwappedWithItself() {
        OddChoir x = row(3, 160, 150, 140);
        CHECKS.due("22 ifSwapped: with itself, as now", 1, () -> x.ifSwapped(3, 2, 3, 2));
        CHECKS.due("22 ifSwapped: both ends", 0, () -> x.ifSwapped(3, 0, 3, 2));
        CHECKS.due("22 ifSwapped: both ends, the other way", 0, () -> x.ifSwapped(3, 2, 3, 0));
        CHECKS.due("22 ifSwapped: no swap is counted", 0, () -> x.count(4));
    }

    private static void bestSwapOfFew() {
        CHECKS.due("23 bestSwap: none of nobody", OddChoir.NONE, () -> new OddChoir().bestSwap(0));
        CHECKS.due("23 bestSwap: none of one", OddChoir.NONE, () -> row(3, 150).bestSwap(3));
        CHECKS.due("23 bestSwap: the only pair", 1, () -> row(0, 150, 160).bestSwap(0));
        CHECKS.due("23 bestSwap: the only pair is had now", OddChoir.NONE, () -> row(0, 160, 150).bestSwap(0));
    }

    private static void bestSwapMoreThanNow() {
        OddChoir x = row(1, 150, 150, 150, 150, 150, 150);
        CHECKS.due("23 bestSwap: as many as now are not more", OddChoir.NONE, () -> x.bestSwap(1));
        OddChoir y = row(3, 120, 100, 110);
        CHECKS.due("23 bestSwap: the most is had now", OddChoir.NONE, () -> y.bestSwap(3));
        y.swap(3, 1, 3, 2);
        // 120 110 100 has one odd one, and by the pair of the places 1 and 2 two
        CHECKS.due("23 bestSwap: one more than now", 8, () -> y.bestSwap(3));
    }

    private static void bestSwapOfSeveral() {
        // 110 100 110 120 has one odd one, 120 110 110 100 three, 100 120 110 110 two
        OddChoir x = row(3, 100, 110, 110, 120);
        CHECKS.due("23 bestSwap: the most, not the lowest place", 3, () -> x.bestSwap(3));
        OddChoir y = row(3, 100, 110, 110);
        y.set(0, 1);
        // 110 100 110 and 110 110 100 have one odd one each
        CHECKS.due("23 bestSwap: the lowest second place", 1, () -> y.bestSwap(3));
        OddChoir z = row(3, 110, 110, 120);
        z.set(0, 1);
        // 120 110 110 and 110 120 110 have one odd one each: the places 0 and 2, and 1 and 2
        CHECKS.due("23 bestSwap: the lowest first place", 2, () -> z.bestSwap(3));
    }

    private static void bestSwapOfAllRows() {
        OddChoir x = row(3, 150, 130);
        Choirs.fill(x, 2, 140);
        CHECKS.due("23 bestSwap: two odd ones now", 2, () -> x.count(1));
        CHECKS.due("23 bestSwap: those of other rows are counted", OddChoir.NONE, () -> x.bestSwap(3));
        x.turn(3);
        CHECKS.due("23 bestSwap: and brought", 1, () -> x.bestSwap(3));
        CHECKS.due("23 bestSwap: but swaps are within the row", OddChoir.NONE, () -> x.bestSwap(2));
    }

    private static void bestSwapLastPair() {
        OddChoir x = row(2, 150, 150, 150, 150, 150, 151);
        x.set(0, 1);
        CHECKS.due("23 bestSwap: all pairs with the last place", 5, () -> x.bestSwap(2));
        OddChoir y = row(2, 160, 159, 158, 157, 156, 155);
        y.swap(2, 4, 2, 5);
        y.set(0, 1);
        CHECKS.due("23 bestSwap: the last pair of all", 29, () -> y.bestSwap(2));
    }

    private static void bestRowBorders() {
        CHECKS.due("24 bestRow: the lowest height", 0, () -> new OddChoir().bestRow(100));
        CHECKS.due("24 bestRow: the highest height", 0, () -> new OddChoir().bestRow(220));
        OddChoir x = new OddChoir();
        for (int singer = 0; singer < 23; singer++) {
            x.join(singer / 6, 220, 0);
        }
        CHECKS.due("24 bestRow: the only room", 3, () -> x.bestRow(220));
        x.join(3, 220, 0);
        CHECKS.due("24 bestRow: no room, the lowest height", OddChoir.NONE, () -> x.bestRow(100));
        CHECKS.due("24 bestRow: no room, the highest height", OddChoir.NONE, () -> x.bestRow(220));
        x.leave(0, 5);
        CHECKS.due("24 bestRow: room in the first row", 0, () -> x.bestRow(160));
    }

    private static void bestRowOfSeveral() {
        OddChoir x = new OddChoir();
        for (int row = 0; row < 4; row++) {
            int full = row;
            CHECKS.due("24 bestRow: of several the lowest, " + row, full, () -> x.bestRow(160));
            Choirs.fill(x, row, 160, 160, 160, 160, 160, 160);
        }
    }

    private static void bestRowThisOneToo() {
        OddChoir x = row(3, 161);
        CHECKS.due("24 bestRow: this one is odd there", 2, () -> x.bestRow(160));
        CHECKS.due("24 bestRow: not higher, not odd", 0, () -> x.bestRow(161));
        OddChoir y = row(1, 159);
        CHECKS.due("24 bestRow: one in front is odd then", 2, () -> y.bestRow(160));
        OddChoir z = row(0, 150);
        CHECKS.due("24 bestRow: no more than none, the lowest", 1, () -> z.bestRow(151));
    }

    private static void ifReachBorders() {
        OddChoir x = row(3, 200, 100, 100, 100, 100, 100);
        for (int reach = 1; reach <= 6; reach++) {
            int far = reach;
            CHECKS.due("25 ifReach: " + reach, Math.min(reach, 5), () -> x.ifReach(far));
        }
        CHECKS.due("25 ifReach: setting 0 stays", 6, () -> x.count(6));
        x.set(1, 0);
        CHECKS.due("25 ifReach: with setting 1 as it is", 3, () -> x.ifReach(3));
        CHECKS.due("25 ifReach: nobody", 0, () -> new OddChoir().ifReach(6));
    }

    private static void oddShareBorders() {
        CHECKS.compare("26 oddShare: 1.0 without singers", 1.0, new OddChoir().oddShare());
        OddChoir x = row(0, 150);
        CHECKS.compare("26 oddShare: none of one", 0.0, x.oddShare());
        x.leave(0, 0);
        CHECKS.compare("26 oddShare: 1.0 when all left", 1.0, x.oddShare());
        OddChoir y = row(3, 200, 100, 100, 100, 100, 100);
        CHECKS.compare("26 oddShare: five of six", 5.0 / 6.0, y.oddShare());
        Choirs.fill(y, 0, 150);
        CHECKS.compare("26 oddShare: of all singers", 5.0 / 7.0, y.oddShare());
    }

    private static BigInteger mixed(List<Long> values) {
        BigInteger hash = BigInteger.valueOf(3637);
        for (long value : values) {
            hash = hash.multiply(BigInteger.valueOf(31)).add(BigInteger.valueOf(value));
        }
        return hash;
    }

    /** The document's list, from the object's own answers, each of which has tests of its own. */
    private static List<Long> listed(OddChoir x, String buffer) {
        List<Long> values = new ArrayList<>();
        for (int what = 0; what <= 8; what++) {
            values.add((long) x.count(what));
        }
        for (int row = 0; row < 4; row++) {
            for (int what = 0; what <= 6; what++) {
                values.add((long) x.row(row, what));
            }
            for (int place = 0; place < x.row(row, 0); place++) {
                for (int what = 0; what <= 7; what++) {
                    values.add((long) x.singer(row, place, what));
                }
            }
            values.add((long) x.bestSwap(row));
            for (int index = 0; index < Choirs.text(x, row).length(); index++) {
                values.add((long) x.written(row, index));
            }
        }
        values.add((long) x.bestRow(160));
        for (int reach = 1; reach <= 6; reach++) {
            values.add((long) x.ifReach(reach));
        }
        values.add(Double.doubleToLongBits(x.oddShare()));
        values.add((long) buffer.length());
        for (char code : buffer.toCharArray()) {
            values.add((long) code);
        }
        return values;
    }

    private static void digestDue(String what, OddChoir x, String buffer) {
        BigInteger due = mixed(listed(x, buffer));
        CHECKS.due("27 digest: " + what, due.longValue(), x::digest);
    }

    private static void digestStart() {
        digestDue("a new object", new OddChoir(), "");
        digestDue("one singer", row(3, 100), "");
        digestDue("one character", Choirs.typed("!"), "!");
        digestDue("the last character", Choirs.typed("~"), "~");
        digestDue("a full buffer", Choirs.typed("low:0;".repeat(10)), "low:0;".repeat(10));
    }

    private static void digestOverflow() {
        OddChoir x = Twins.busy();
        BigInteger exact = mixed(listed(x, "turn:0;lo"));
        CHECKS.holds("27 digest: no long holds the hash", exact.bitLength() > 64);
        CHECKS.due("27 digest: with overflow", exact.longValue(), x::digest);
        CHECKS.holds("27 digest: a new one's too", mixed(listed(new OddChoir(), "")).bitLength() > 64);
    }

    private static void digestOfEachPart() {
        Random chance = new Random(11);
        for (int run = 0; run < 60; run++) {
            OddChoir x = some(chance);
            Choirs.type(x, "swap:" + run);
            digestDue("run " + run, x, "swap:" + run);
        }
        OddChoir full = new OddChoir();
        for (int singer = 0; singer < 24; singer++) {
            full.join(singer / 6, 220 - singer * 5, singer % 4);
        }
        digestDue("full rows", full, "");
        // 159 would be odd in row 1, 160 nowhere, and 161 would make the one of row 1 odd
        OddChoir near = row(0, 160);
        near.join(1, 160, 0);
        CHECKS.due("24 bestRow: of 159", 1, () -> near.bestRow(159));
        CHECKS.due("24 bestRow: of 160", 0, () -> near.bestRow(160));
        CHECKS.due("24 bestRow: of 161", 2, () -> near.bestRow(161));
        digestDue("bestRow of the height 160", near, "");
    }
}
