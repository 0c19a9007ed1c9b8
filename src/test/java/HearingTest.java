/** What the document's "Terms" say of hearing: who is heard from where, who is higher, who is odd, and the tree. */
public final class HearingTest {
    private static final Checks CHECKS = new Checks();

    public static void main(String[] args) {
        whoIsHeard();
        howManyAreHeard();
        nobodyHearsThemselves();
        rowInFrontIsNotHeard();
        rowAfterNextIsNotHeard();
        lastRowHasNoRowBehind();
        rightEndOfTheRowBehind();
        farEndOfTheEar();
        placesThereAreNot();
        whoLeftIsNotHeard();
        whoCrossedIsHeardThere();
        alikeIsNotHigher();
        oddCounts();
        treeOfEachOrder();
        treeOfAlikeOnes();
        CHECKS.close();
    }

    /** The document's words as a question of two singers. */
    private static boolean hears(int row, int place, int otherRow, int other, int reach, int behind) {
        boolean own = otherRow == row && other >= place - reach && other <= place - 1;
        boolean back = behind == 1 && otherRow == row + 1 && other >= place - reach && other <= place;
        return own || back;
    }

    private static OddChoir allFull(int height) {
        OddChoir x = new OddChoir();
        for (int singer = 0; singer < 24; singer++) {
            x.join(singer / 6, height, 0);
        }
        return x;
    }

    /** One high singer at a time, so that each one's count of higher ones tells whether the high one is heard. */
    private static void whoIsHeard() {
        for (int high = 0; high < 24; high++) {
            for (int behind = 0; behind <= 1; behind++) {
                OddChoir x = allFull(100);
                x.grow(high / 6, high % 6, 220);
                x.set(1, behind);
                for (int reach = 1; reach <= 6; reach++) {
                    x.set(0, reach);
                    whoHears(x, high / 6, high % 6, reach, behind);
                }
            }
        }
    }

    private static void whoHears(OddChoir x, int highRow, int high, int reach, int behind) {
        for (int singer = 0; singer < 24; singer++) {
            int row = singer / 6;
            int place = singer % 6;
            boolean due = hears(row, place, highRow, high, reach, behind);
            String told = "hearing: reach " + reach + ", behind " + behind + ": " + row + " " + place + " hears "
                + highRow + " " + high;
            CHECKS.due(told, due ? 1 : 0, () -> x.singer(row, place, 4));
            if (due) {
                CHECKS.due(told + " (the tree)", 1, () -> x.singer(row, place, 5));
                CHECKS.due(told + " (odd)", 1, () -> x.singer(row, place, 6));
            }
        }
    }

    private static void howManyAreHeard() {
        int[] sizes = {4, 6, 1, 5};
        for (int behind = 0; behind <= 1; behind++) {
            OddChoir x = new OddChoir();
            for (int row = 0; row < 4; row++) {
                for (int place = 0; place < sizes[row]; place++) {
                    x.join(row, 150, 0);
                }
            }
            x.set(1, behind);
            for (int reach = 1; reach <= 6; reach++) {
                x.set(0, reach);
                countsOfAll(x, sizes, reach, behind);
            }
        }
    }

    private static void countsOfAll(OddChoir x, int[] sizes, int reach, int behind) {
        for (int spot = 0; spot < 24; spot++) {
            int row = spot / 6;
            int place = spot % 6;
            if (place < sizes[row]) {
                int heard = 0;
                int hearers = 0;
                for (int other = 0; other < 24; other++) {
                    boolean there = other % 6 < sizes[other / 6];
                    heard += there && hears(row, place, other / 6, other % 6, reach, behind) ? 1 : 0;
                    hearers += there && hears(other / 6, other % 6, row, place, reach, behind) ? 1 : 0;
                }
                String told = " reach " + reach + ", behind " + behind + ": " + row + " " + place;
                CHECKS.due("18 singer: how many this one hears," + told, heard, () -> x.singer(row, place, 3));
                CHECKS.due("18 singer: how many hear this one," + told, hearers, () -> x.singer(row, place, 7));
            }
        }
    }

    private static void nobodyHearsThemselves() {
        OddChoir x = new OddChoir();
        x.join(3, 100, 0);
        CHECKS.due("hearing: one singer alone hears nobody", 0, () -> x.singer(3, 0, 3));
        CHECKS.due("hearing: nor is this one heard", 0, () -> x.singer(3, 0, 7));
        CHECKS.due("hearing: nor odd", 0, () -> x.singer(3, 0, 6));
    }

    private static void rowInFrontIsNotHeard() {
        OddChoir x = new OddChoir();
        Choirs.fill(x, 0, 200, 200, 200);
        Choirs.fill(x, 1, 100, 100, 100);
        CHECKS.due("hearing: the row in front is not heard", 2, () -> x.singer(1, 2, 3));
        CHECKS.due("hearing: none of it is higher", 0, () -> x.singer(1, 2, 4));
    }

    private static void rowAfterNextIsNotHeard() {
        OddChoir x = new OddChoir();
        Choirs.fill(x, 0, 100);
        Choirs.fill(x, 2, 200, 200);
        CHECKS.due("hearing: the row after the next is not heard", 0, () -> x.singer(0, 0, 3));
        CHECKS.due("hearing: only the neighbour hears its first one", 1, () -> x.singer(2, 0, 7));
    }

    private static void lastRowHasNoRowBehind() {
        OddChoir x = new OddChoir();
        Choirs.fill(x, 0, 200, 200, 200);
        Choirs.fill(x, 3, 100, 100, 100);
        for (int place = 0; place < 3; place++) {
            int at = place;
            CHECKS.due("hearing: row 3 has no row behind, place " + at, at, () -> x.singer(3, at, 3));
            CHECKS.due("hearing: row 0 is not behind row 3, place " + at, 2 - at, () -> x.singer(0, at, 7));
        }
    }

    private static void rightEndOfTheRowBehind() {
        OddChoir x = new OddChoir();
        Choirs.fill(x, 0, 100, 100);
        Choirs.fill(x, 1, 110, 110, 220);
        CHECKS.due("hearing: of the row behind up to the same place", 1, () -> x.singer(0, 0, 4));
        CHECKS.due("hearing: not beyond it", 2, () -> x.singer(0, 1, 4));
        x.join(0, 100, 0);
        CHECKS.due("hearing: the same place too", 3, () -> x.singer(0, 2, 4));
    }

    private static void farEndOfTheEar() {
        OddChoir x = new OddChoir();
        Choirs.fill(x, 2, 220, 100, 100, 100);
        x.set(0, 2);
        CHECKS.due("hearing: as far as the ear reaches", 1, () -> x.singer(2, 2, 4));
        CHECKS.due("hearing: not one place farther", 0, () -> x.singer(2, 3, 4));
        x.set(0, 3);
        CHECKS.due("hearing: one place farther with a better ear", 1, () -> x.singer(2, 3, 4));
        x.set(0, 1);
        CHECKS.due("hearing: the neighbour with the shortest ear", 1, () -> x.singer(2, 1, 4));
        CHECKS.due("hearing: the one beyond not", 0, () -> x.singer(2, 2, 4));
    }

    private static void placesThereAreNot() {
        OddChoir x = new OddChoir();
        Choirs.fill(x, 0, 100, 100, 100, 100, 100, 100);
        Choirs.fill(x, 1, 200);
        CHECKS.due("hearing: places that there are not are nobody's", 6, () -> x.singer(0, 5, 3));
        CHECKS.due("hearing: left of the row too", 1, () -> x.singer(0, 0, 3));
        x.set(0, 1);
        CHECKS.due("hearing: a row behind that ends before", 1, () -> x.singer(0, 5, 3));
        OddChoir y = new OddChoir();
        Choirs.fill(y, 0, 100, 100);
        CHECKS.due("hearing: an empty row behind", 1, () -> y.singer(0, 1, 3));
        CHECKS.due("hearing: an empty row behind, the first place", 0, () -> y.singer(0, 0, 3));
    }

    private static void whoLeftIsNotHeard() {
        OddChoir x = new OddChoir();
        Choirs.fill(x, 0, 100, 100, 100);
        Choirs.fill(x, 1, 110, 120, 220);
        x.leave(1, 2);
        CHECKS.due("hearing: who left is not heard", 4, () -> x.singer(0, 2, 3));
        CHECKS.due("hearing: nor higher", 2, () -> x.singer(0, 2, 4));
        CHECKS.due("hearing: nor in the tree", 2, () -> x.singer(0, 2, 5));
        CHECKS.due("hearing: nor is there one to be odd for", 1, () -> x.count(1));
        x.leave(1, 0);
        CHECKS.due("hearing: those to the right moved to the left", 1, () -> x.singer(0, 0, 4));
        CHECKS.due("hearing: only once", 1, () -> x.singer(0, 1, 4));
        CHECKS.due("hearing: only once in the tree", 1, () -> x.singer(0, 1, 5));
        x.undo();
        x.undo();
        CHECKS.due("hearing: heard again after undo", 3, () -> x.singer(0, 2, 5));
    }

    private static void whoCrossedIsHeardThere() {
        OddChoir x = new OddChoir();
        Choirs.fill(x, 0, 100, 100);
        Choirs.fill(x, 1, 110, 220);
        x.cross(1, 1, 2);
        CHECKS.due("hearing: who crossed away is not heard", 1, () -> x.singer(0, 1, 4));
        CHECKS.due("hearing: nor in the tree", 1, () -> x.singer(0, 1, 5));
        CHECKS.due("hearing: but where this one is now", 1, () -> x.singer(1, 0, 5));
    }

    private static void alikeIsNotHigher() {
        OddChoir x = new OddChoir();
        Choirs.fill(x, 3, 150, 151, 149, 150);
        CHECKS.due("a higher one: one of the same height is not", 1, () -> x.singer(3, 3, 4));
        CHECKS.due("a higher one: nor in the tree", 1, () -> x.singer(3, 3, 5));
        x.grow(3, 1, 150);
        CHECKS.due("a higher one: three heard, none higher", 0, () -> x.singer(3, 3, 4));
        CHECKS.due("a higher one: greater by one is", 2, () -> x.singer(3, 2, 4));
    }

    private static void oddCounts() {
        OddChoir x = new OddChoir();
        Choirs.fill(x, 3, 220, 219, 218, 217, 216, 215);
        for (int place = 0; place < 6; place++) {
            int at = place;
            CHECKS.due("odd: " + at + " higher ones", at % 2, () -> x.singer(3, at, 6));
        }
        OddChoir y = allFull(220);
        for (int place = 0; place < 6; place++) {
            y.grow(0, place, 105 - place);
        }
        for (int place = 0; place < 6; place++) {
            int at = place;
            CHECKS.due("odd: the most that are heard, " + at, 2 * at + 1, () -> y.singer(0, at, 5));
            CHECKS.due("odd: always one more than an even count, " + at, 1, () -> y.singer(0, at, 6));
        }
    }

    /** "Both ways agree": in each order of the row, so that the tree takes every form. */
    private static void treeOfEachOrder() {
        int[] heights = {100, 120, 140, 180, 220};
        for (int order = 0; order < 120; order++) {
            int[] row = permutation(heights, order);
            OddChoir x = new OddChoir();
            Choirs.fill(x, 0, row);
            Choirs.fill(x, 0, 160);
            Choirs.fill(x, 1, permutation(new int[] {110, 120, 150, 170, 200}, 119 - order));
            for (int height = 100; height <= 220; height += 20) {
                x.grow(0, 5, height);
                int higher = higherThan(height, row) + higherThan(height, 110, 120, 150, 170, 200);
                String told = "the tree: order " + order + ", height " + height;
                CHECKS.due(told, higher, () -> x.singer(0, 5, 5));
                CHECKS.due(told + ", the other way", higher, () -> x.singer(0, 5, 4));
            }
        }
    }

    private static int higherThan(int height, int... others) {
        int higher = 0;
        for (int other : others) {
            higher += other > height ? 1 : 0;
        }
        return higher;
    }

    private static int[] permutation(int[] heights, int order) {
        java.util.List<Integer> rest = new java.util.ArrayList<>();
        for (int height : heights) {
            rest.add(height);
        }
        int[] row = new int[heights.length];
        int left = order;
        for (int place = 0; place < row.length; place++) {
            row[place] = rest.remove(left % rest.size());
            left /= rest.size() + 1;
        }
        return row;
    }

    private static void treeOfAlikeOnes() {
        OddChoir x = allFull(150);
        CHECKS.due("the tree: eleven alike, none higher", 0, () -> x.singer(0, 5, 5));
        x.grow(0, 5, 149);
        CHECKS.due("the tree: eleven alike, all higher", 11, () -> x.singer(0, 5, 5));
        CHECKS.due("the tree: eleven alike, the other way", 11, () -> x.singer(0, 5, 4));
        OddChoir y = new OddChoir();
        Choirs.fill(y, 0, 160, 150, 170, 160, 160, 155);
        Choirs.fill(y, 1, 170, 150, 160, 140, 170, 155);
        CHECKS.due("the tree: some alike", 7, () -> y.singer(0, 5, 5));
        CHECKS.due("the tree: some alike, the other way", 7, () -> y.singer(0, 5, 4));
        CHECKS.due("the tree: asked twice", 7, () -> y.singer(0, 5, 5));
        CHECKS.due("the tree: of nobody", 0, () -> y.singer(1, 0, 5));
    }
}
