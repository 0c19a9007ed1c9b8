/** What chants do, and up to where: promises 13 and 14. */
public final class ChantsTest {
    private static final Checks CHECKS = new Checks();

    public static void main(String[] args) {
        joinByText();
        joinFullRow();
        joinAllRows();
        swapByText();
        swapOfNobody();
        turnByText();
        sortsByText();
        rowsOfEachWord();
        stopsAtTheFirstImpossible();
        nothingDone();
        likeTheCalls();
        undoneAsOne();
        afterSixSaved();
        writtenOfFew();
        writtenBorders();
        CHECKS.close();
    }

    private static int chant(OddChoir x, String text) {
        Choirs.type(x, text);
        return x.chant();
    }

    private static OddChoir row(int row, int... heights) {
        OddChoir x = new OddChoir();
        Choirs.fill(x, row, heights);
        return x;
    }

    private static void joinByText() {
        OddChoir x = new OddChoir();
        CHECKS.due("13 chant: join, the lowest and the highest", 4,
            () -> chant(x, "join:0,100b;join:0,220t;join:0,199a;join:0,209s"));
        CHECKS.compare("13 chant: join, row", "100b 220t 199a 209s", Choirs.text(x, 0));
        for (int voice = 0; voice <= 3; voice++) {
            int which = voice;
            CHECKS.due("13 chant: voice " + voice, voice, () -> x.singer(0, which, 2));
        }
        CHECKS.due("13 chant: they came", 4, () -> x.count(2));
        CHECKS.due("13 chant: the next number goes on", 4, () -> x.join(3, 150, 0));
        CHECKS.due("13 chant: example", 1, () -> chant(x, "join:0,150b"));
        CHECKS.due("13 chant: the number behind", 4, () -> x.find(5));
    }

    private static void joinFullRow() {
        OddChoir x = row(0, 150, 150, 150, 150);
        CHECKS.due("13 chant: join up to six", 2, () -> chant(x, "join:0,101b;join:0,102b;join:0,103b;join:1,104b"));
        CHECKS.due("13 chant: six in the row", 6, () -> x.row(0, 0));
        CHECKS.due("13 chant: nothing behind the part that is not possible", 0, () -> x.row(1, 0));
        CHECKS.due("13 chant: nobody came by it", 6, () -> x.count(2));
        CHECKS.due("13 chant: a full row", 0, () -> chant(x, "join:0,103b"));
        CHECKS.due("13 chant: another one has room", 1, () -> chant(x, "join:3,103b"));
    }

    private static void joinAllRows() {
        OddChoir x = new OddChoir();
        CHECKS.due("13 chant: all four rows", 4, () -> chant(x, "join:0,100b;join:1,101t;join:2,102a;join:3,103s"));
        String[] dues = {"100b", "101t", "102a", "103s"};
        for (int row = 0; row < 4; row++) {
            CHECKS.compare("13 chant: row " + row, dues[row], Choirs.text(x, row));
        }
    }

    private static void swapByText() {
        OddChoir x = row(2, 101, 102, 103, 104, 105, 106);
        CHECKS.due("13 chant: swap, the example", 1, () -> chant(x, "swap:2,05"));
        CHECKS.compare("13 chant: swapped", "5 1 2 3 4 0", Choirs.numbers(x, 2));
        CHECKS.due("13 chant: swap, the higher place first", 1, () -> chant(x, "swap:2,50"));
        CHECKS.compare("13 chant: swapped back", "0 1 2 3 4 5", Choirs.numbers(x, 2));
        CHECKS.due("13 chant: swap, also the same place", 2, () -> chant(x, "swap:2,00;swap:2,55"));
        CHECKS.compare("13 chant: the same stay", "0 1 2 3 4 5", Choirs.numbers(x, 2));
        CHECKS.due("21 count: swaps by texts", 4, () -> x.count(4));
        x.swap(2, 0, 2, 1);
        CHECKS.due("21 count: swaps by swap() too", 5, () -> x.count(4));
        x.turn(2);
        x.sort(2, 0);
        chant(x, "turn:2;low:2;high:2;voice:2");
        x.ifSwapped(2, 0, 2, 1);
        x.bestSwap(2);
        CHECKS.due("21 count: nothing else is a swap", 5, () -> x.count(4));
    }

    private static void swapOfNobody() {
        String[] texts = {"swap:1,00", "swap:1,05", "swap:0,03", "swap:0,30", "swap:0,33", "swap:0,05", "swap:0,55"};
        for (String text : texts) {
            OddChoir x = row(0, 150, 160, 170);
            CHECKS.due("13 chant: nobody at one of both places, " + text, 0, () -> chant(x, text));
            CHECKS.compare("13 chant: nothing is swapped", "0 1 2", Choirs.numbers(x, 0));
            CHECKS.due("13 chant: nor counted", 0, () -> x.count(4));
        }
        OddChoir y = row(0, 150, 160, 170);
        CHECKS.due("13 chant: the last one is somebody", 1, () -> chant(y, "swap:0,02"));
    }

    private static void turnByText() {
        OddChoir x = row(3, 101, 102, 103);
        CHECKS.due("13 chant: turn, an empty row too", 2, () -> chant(x, "turn:0;turn:3"));
        CHECKS.compare("13 chant: turned", "2 1 0", Choirs.numbers(x, 3));
    }

    private static void sortsByText() {
        OddChoir x = new OddChoir();
        x.join(0, 150, 3);
        x.join(0, 170, 0);
        x.join(0, 150, 0);
        x.join(0, 160, 3);
        CHECKS.due("13 chant: low", 1, () -> chant(x, "low:0"));
        CHECKS.compare("13 chant: low, alike in their order", "0 2 3 1", Choirs.numbers(x, 0));
        CHECKS.due("13 chant: high", 1, () -> chant(x, "high:0"));
        CHECKS.compare("13 chant: high, alike in their order", "1 3 0 2", Choirs.numbers(x, 0));
        CHECKS.due("13 chant: voice", 1, () -> chant(x, "voice:0"));
        CHECKS.compare("13 chant: voice, alike in their order", "1 2 3 0", Choirs.numbers(x, 0));
        CHECKS.due("13 chant: sorts of empty rows", 3, () -> chant(x, "low:1;high:2;voice:3"));
    }

    private static void rowsOfEachWord() {
        String[] words = {"turn:", "low:", "high:", "voice:"};
        for (int word = 0; word < words.length; word++) {
            for (int row = 0; row < 4; row++) {
                OddChoir x = new OddChoir();
                OddChoir twin = new OddChoir();
                for (int singer = 0; singer < 24; singer++) {
                    x.join(singer % 4, 100 + singer * 37 % 121, singer * 5 % 4);
                    twin.join(singer % 4, 100 + singer * 37 % 121, singer * 5 % 4);
                }
                chant(x, words[word] + row);
                if (word == 0) {
                    twin.turn(row);
                } else {
                    twin.sort(row, word - 1);
                }
                CHECKS.compare("13 chant: " + words[word] + row, twin.digest(), x.digest());
            }
        }
    }

    private static void stopsAtTheFirstImpossible() {
        OddChoir x = row(0, 160, 150);
        CHECKS.due("13 chant: up to the first that is not possible", 2,
            () -> chant(x, "low:0;swap:0,01;swap:0,02;high:0;join:1,150b"));
        CHECKS.compare("13 chant: those before are done", "0 1", Choirs.numbers(x, 0));
        CHECKS.due("13 chant: those behind are not", 2, () -> x.count(0));
        CHECKS.due("13 chant: the buffer is cleared all the same", 0, x::clearBuffer);
        OddChoir y = row(0, 160);
        CHECKS.due("13 chant: possible by what is before", 2, () -> chant(y, "join:0,150b;swap:0,01"));
        CHECKS.compare("13 chant: and done", "150b 160b", Choirs.text(y, 0));
    }

    private static void nothingDone() {
        OddChoir x = row(0, 160);
        long before = x.digest();
        CHECKS.due("13 chant: nothing is done", 0, () -> chant(x, "swap:0,01;turn:0"));
        CHECKS.due("13 chant: undoable also then", 2, () -> x.count(8));
        CHECKS.due("13 chant: undone", 1, x::undo);
        CHECKS.compare("13 chant: all is as before", before, x.digest());
    }

    /** "for which the method would throw an exception": part by part as the calls would do. */
    private static void likeTheCalls() {
        OddChoir x = Twins.lessBusy();
        OddChoir twin = Twins.lessBusy();
        x.clearBuffer();
        twin.clearBuffer();
        CHECKS.due("13 chant: like the calls", 6,
            () -> chant(x, "join:2,133a;high:1;swap:1,14;turn:0;voice:3;low:0"));
        twin.join(2, 133, 2);
        twin.sort(1, 1);
        twin.swap(1, 1, 1, 4);
        twin.turn(0);
        twin.sort(3, 2);
        twin.sort(0, 0);
        CHECKS.compare("13 chant: like the calls", Twins.seen(twin), Twins.seen(x));
    }

    private static void undoneAsOne() {
        Twins twins = new Twins(CHECKS);
        twins.undoable("13 chant, the last part not possible", x -> {
            x.clearBuffer();
            return chant(x, "turn:0;join:2,150b;swap:0,01;swap:2,05");
        });
        twins.undoable("13 chant, nothing done", x -> {
            x.clearBuffer();
            return chant(x, "swap:2,00");
        });
    }

    private static void afterSixSaved() {
        OddChoir x = row(0, 150, 160, 170, 180, 190, 200);
        chant(x, "turn:0;low:0;turn:0;low:0;turn:0;low:0;turn:0");
        CHECKS.due("13 chant: one saved state for all parts", 6, () -> x.count(8));
        for (int left = 5; left >= 0; left--) {
            CHECKS.due("13 chant: undo with " + left + " left", left, x::undo);
        }
        CHECKS.compare("13 chant: the oldest one is dropped", "150b", Choirs.text(x, 0));
    }

    private static void writtenOfFew() {
        OddChoir x = new OddChoir();
        CHECKS.due("14 written: of nobody", OddChoir.NONE, () -> x.written(3, 0));
        x.join(3, 100, 3);
        CHECKS.due("14 written: the first sign", '1', () -> x.written(3, 0));
        CHECKS.due("14 written: the last sign", 's', () -> x.written(3, 3));
        CHECKS.due("14 written: no space behind the last singer", OddChoir.NONE, () -> x.written(3, 4));
        x.join(3, 220, 0);
        CHECKS.due("14 written: a space between two", ' ', () -> x.written(3, 4));
        CHECKS.due("14 written: the second one", '2', () -> x.written(3, 5));
        x.leave(3, 0);
        CHECKS.compare("14 written: who left is not", "220b", Choirs.text(x, 3));
        CHECKS.due("14 written: nor behind", OddChoir.NONE, () -> x.written(3, 5));
    }

    private static void writtenBorders() {
        OddChoir x = row(0, 100, 199, 198, 209, 210, 220);
        String due = "100b 199b 198b 209b 210b 220b";
        for (int index = 0; index < due.length(); index++) {
            int at = index;
            CHECKS.due("14 written: a full row at " + at, due.charAt(at), () -> x.written(0, at));
        }
        for (int index : new int[] {29, 30, 31, 34, 35, 59, 256, 65536, Integer.MAX_VALUE - 1, Integer.MAX_VALUE}) {
            CHECKS.due("14 written: it has not so many, " + index, OddChoir.NONE, () -> x.written(0, index));
        }
    }
}
