import java.util.Arrays;

/** What the document's "Terms" say of orders and sorting: discord, parity, the most of a row and its way. */
public final class OrdersTest {
    private static final Checks CHECKS = new Checks();

    public static void main(String[] args) {
        discordOfFew();
        discordOfAlikeOnes();
        discordAtMost();
        discordIsOfTheRowAlone();
        mostOfFew();
        mostCountsThisRowOnly();
        mostLeavesOtherRows();
        mostByTheEar();
        wayIsNoneIfHadNow();
        wayIsTheLeast();
        wayAtMost();
        mostOfEachRow();
        highest();
        sortKeepsThoseAlike();
        sortOfFew();
        sortOfEachOrder();
        CHECKS.close();
    }

    private static OddChoir row(int row, int... heights) {
        OddChoir x = new OddChoir();
        Choirs.fill(x, row, heights);
        return x;
    }

    private static void discordDue(String what, OddChoir x, int row, int discord) {
        CHECKS.due("discord: " + what, discord, () -> x.row(row, 2));
        CHECKS.due("parity: " + what, discord % 2, () -> x.row(row, 3));
    }

    private static void discordOfFew() {
        discordDue("nobody", new OddChoir(), 0, 0);
        discordDue("one", row(3, 220), 3, 0);
        discordDue("two in order", row(0, 150, 151), 0, 0);
        discordDue("two, the higher one to the left", row(0, 151, 150), 0, 1);
        discordDue("not neighbours only", row(0, 152, 150, 151), 0, 2);
        discordDue("a pair far off", row(2, 150, 170, 180, 149), 2, 3);
    }

    private static void discordOfAlikeOnes() {
        discordDue("two alike", row(1, 150, 150), 1, 0);
        discordDue("six alike", row(1, 150, 150, 150, 150, 150, 150), 1, 0);
        discordDue("alike ones round a lower one", row(1, 150, 140, 150), 1, 1);
    }

    private static void discordAtMost() {
        OddChoir x = row(2, 220, 219, 200, 150, 101, 100);
        discordDue("all fifteen pairs", x, 2, 15);
        CHECKS.due("21 count: the sum of all discords, one row", 15, () -> x.count(5));
        x.turn(2);
        discordDue("turned", x, 2, 0);
        CHECKS.due("21 count: the sum of no discords", 0, () -> x.count(5));
        x.turn(2);
        for (int row : new int[] {0, 1, 3}) {
            Choirs.fill(x, row, 206, 205, 204, 203, 202, 201);
        }
        CHECKS.due("21 count: the sum of all discords at most", 60, () -> x.count(5));
    }

    private static void discordIsOfTheRowAlone() {
        OddChoir x = row(0, 100, 101);
        Choirs.fill(x, 1, 220, 210);
        x.set(0, 1);
        x.join(0, 100, 0);
        discordDue("the row behind is no part of it, nor is the ear", x, 0, 1);
        discordDue("those who left are no part of it", left(), 0, 0);
    }

    private static OddChoir left() {
        OddChoir x = row(0, 150, 160, 140);
        x.leave(0, 2);
        return x;
    }

    private static void mostDue(String what, OddChoir x, int row, int most, int way) {
        CHECKS.due("the most: " + what, most, () -> x.row(row, 4));
        CHECKS.due("the way: " + what, way, () -> x.row(row, 5));
    }

    private static void mostOfFew() {
        mostDue("nobody", new OddChoir(), 0, 0, 0);
        mostDue("nobody behind nobody", row(1, 150, 150), 0, 0, 0);
        mostDue("one alone", row(0, 150), 0, 0, 0);
        mostDue("two alike", row(0, 150, 150), 0, 0, 0);
        mostDue("two in order", row(0, 150, 160), 0, 1, 1);
        mostDue("two out of order", row(0, 160, 150), 0, 1, 0);
        OddChoir x = row(0, 150);
        x.join(1, 160, 0);
        mostDue("one before a higher one", x, 0, 1, 0);
    }

    private static void mostCountsThisRowOnly() {
        OddChoir x = row(3, 150, 150, 150);
        Choirs.fill(x, 2, 100, 100, 100);
        // by the row behind all three of row 2 may be odd or not: row 3 itself has nobody who could be
        mostDue("only singers of this row are counted", x, 3, 0, 0);
        OddChoir y = row(3, 160, 100);
        Choirs.fill(y, 2, 150, 150);
        // 160 100 has one odd one in row 3 and two in row 2, 100 160 none and one
        mostDue("the row before is not counted", y, 3, 1, 0);
        y.turn(3);
        mostDue("nor then", y, 3, 1, 1);
    }

    private static void mostLeavesOtherRows() {
        OddChoir x = row(1, 140, 150, 150);
        Choirs.fill(x, 0, 145);
        // 145 hears 140 alone; with 150 at the left end of row 1 this one would be odd
        mostDue("all other rows as they are", x, 0, 0, 0);
        CHECKS.compare("the most: rows stay as they are", "140b 150b 150b", Choirs.text(x, 1));
        CHECKS.compare("the most: this row too", "145b", Choirs.text(x, 0));
    }

    private static void mostByTheEar() {
        OddChoir x = row(3, 100, 110, 120, 130);
        // the highest one in front of all: 130 100 110 120
        mostDue("a far ear", x, 3, 3, 3);
        x.set(0, 1);
        mostDue("a short ear", x, 3, 3, 6);
        x.set(0, 2);
        mostDue("a longer ear", x, 3, 3, 4);
        OddChoir y = row(0, 100);
        Choirs.fill(y, 1, 200);
        mostDue("the row behind is heard", y, 0, 1, 0);
        y.set(1, 0);
        mostDue("the row behind is not heard", y, 0, 0, 0);
    }

    private static void wayIsNoneIfHadNow() {
        OddChoir x = row(3, 120, 100, 110);
        CHECKS.due("the way: the most is had now", 2, () -> x.row(3, 1));
        mostDue("it is had now", x, 3, 2, 0);
    }

    private static void wayIsTheLeast() {
        OddChoir x = row(3, 100, 110, 120);
        // 120 100 110 by two swaps of neighbours; by one swap of two that are no neighbours none has it
        mostDue("by neighbours only", x, 3, 2, 2);
        OddChoir y = row(3, 110, 120, 100);
        mostDue("the least of several", y, 3, 2, 2);
        OddChoir z = row(3, 120, 120, 110, 100);
        // 120 110 100 .. must not be counted as farther for one 120 passing the other
        CHECKS.due("the way: those alike need not pass one another", z.row(3, 5), () -> leastWay(z, 3));
    }

    /** The way by the document's words: all orders, the swaps of neighbours being the pairs that change sides. */
    private static int leastWay(OddChoir x, int row) {
        int size = x.row(row, 0);
        int[] places = new int[size];
        int most = -1;
        int way = 0;
        for (int code = 0; code < Math.pow(size, size); code++) {
            int rest = code;
            boolean[] seen = new boolean[size];
            boolean isOrder = true;
            for (int i = 0; i < size; i++) {
                places[i] = rest % size;
                rest /= size;
                isOrder &= !seen[places[i]];
                seen[places[i]] = true;
            }
            if (isOrder) {
                int odd = oddOf(x, row, places);
                int swaps = inversions(places);
                if (odd > most || odd == most && swaps < way) {
                    most = odd;
                    way = swaps;
                }
            }
        }
        return way;
    }

    private static int oddOf(OddChoir x, int row, int[] places) {
        int odd = 0;
        for (int at = 0; at < places.length; at++) {
            int height = x.singer(row, places[at], 1);
            int higher = 0;
            for (int before = Math.max(0, at - x.count(6)); before < at; before++) {
                higher += x.singer(row, places[before], 1) > height ? 1 : 0;
            }
            odd += higher % 2;
        }
        return odd;
    }

    private static int inversions(int[] places) {
        int pairs = 0;
        for (int i = 0; i < places.length; i++) {
            for (int j = i + 1; j < places.length; j++) {
                pairs += places[i] > places[j] ? 1 : 0;
            }
        }
        return pairs;
    }

    private static void wayAtMost() {
        OddChoir x = row(3, 100, 110, 120, 130, 140, 150);
        x.set(0, 1);
        mostDue("fifteen swaps, the whole row turned", x, 3, 5, 15);
        x.turn(3);
        mostDue("none, the row being turned", x, 3, 5, 0);
    }

    private static void mostOfEachRow() {
        for (int row = 0; row < 4; row++) {
            mostDue("row " + row, row(row, 100, 110, 120), row, 2, 2);
        }
        OddChoir x = row(3, 100, 110, 120, 130, 140, 150);
        mostDue("a full row", x, 3, 5, 5);
    }

    private static void highest() {
        OddChoir x = row(2, 150, 220, 100);
        CHECKS.due("19 row: the height of its highest", 220, () -> x.row(2, 6));
        x.leave(2, 1);
        CHECKS.due("19 row: of those who are there", 150, () -> x.row(2, 6));
        x.leave(2, 0);
        CHECKS.due("19 row: the lowest height", 100, () -> x.row(2, 6));
        x.leave(2, 0);
        CHECKS.due("19 row: NONE without singers", OddChoir.NONE, () -> x.row(2, 6));
        CHECKS.due("19 row: NONE in a new object", OddChoir.NONE, () -> new OddChoir().row(0, 6));
        x.join(2, 100, 0);
        CHECKS.due("19 row: the first one is the highest", 100, () -> x.row(2, 6));
    }

    private static void sortKeepsThoseAlike() {
        int[] voices = {3, 1, 3, 0, 1, 2};
        int[] heights = {160, 150, 160, 150, 220, 150};
        String[] dues = {"1 3 5 0 2 4", "4 0 2 1 3 5", "3 1 4 5 0 2"};
        int[] discords = {0, 11, 3};
        for (int how = 0; how <= 2; how++) {
            OddChoir x = new OddChoir();
            for (int place = 0; place < 6; place++) {
                x.join(1, heights[place], voices[place]);
            }
            int by = how;
            CHECKS.due("8 sort " + how + ": its discord then", discords[how], () -> x.sort(1, by));
            CHECKS.compare("8 sort " + how + ": alike by that stay in order", dues[how], Choirs.numbers(x, 1));
            CHECKS.due("8 sort " + how + ": the discord stands", discords[how], () -> x.row(1, 2));
            CHECKS.due("8 sort " + how + ": sorted again", discords[how], () -> x.sort(1, by));
            CHECKS.compare("8 sort " + how + ": sorted stays sorted", dues[how], Choirs.numbers(x, 1));
        }
    }

    private static void sortOfFew() {
        for (int how = 0; how <= 2; how++) {
            int by = how;
            CHECKS.due("8 sort " + how + ": an empty row", 0, () -> new OddChoir().sort(3, by));
            OddChoir one = row(0, 150);
            CHECKS.due("8 sort " + how + ": one", 0, () -> one.sort(0, by));
            CHECKS.compare("8 sort " + how + ": one stays", "150b", Choirs.text(one, 0));
            OddChoir alike = row(0, 150, 150, 150, 150, 150, 150);
            CHECKS.due("8 sort " + how + ": six alike", 0, () -> alike.sort(0, by));
            CHECKS.compare("8 sort " + how + ": six alike stay", "0 1 2 3 4 5", Choirs.numbers(alike, 0));
        }
        OddChoir ends = row(0, 220, 100);
        CHECKS.due("8 sort: the lowest first", 0, () -> ends.sort(0, 0));
        CHECKS.compare("8 sort: low", "100b 220b", Choirs.text(ends, 0));
        CHECKS.due("8 sort: the highest first", 1, () -> ends.sort(0, 1));
        CHECKS.compare("8 sort: high", "220b 100b", Choirs.text(ends, 0));
        CHECKS.due("8 sort: other rows stay", 0, () -> ends.sort(1, 0));
        CHECKS.compare("8 sort: this one stays", "220b 100b", Choirs.text(ends, 0));
    }

    private static void sortOfEachOrder() {
        int[] heights = {100, 140, 150, 220};
        for (int code = 0; code < 256; code++) {
            int[] row = {heights[code % 4], heights[code / 4 % 4], heights[code / 16 % 4], heights[code / 64]};
            int[] sorted = row.clone();
            Arrays.sort(sorted);
            OddChoir x = row(0, row);
            x.sort(0, 0);
            for (int place = 0; place < 4; place++) {
                int at = place;
                CHECKS.due("8 sort: low, " + code, sorted[place], () -> x.singer(0, at, 1));
            }
            x.sort(0, 1);
            for (int place = 0; place < 4; place++) {
                int at = place;
                CHECKS.due("8 sort: high, " + code, sorted[3 - place], () -> x.singer(0, at, 1));
            }
        }
    }
}
