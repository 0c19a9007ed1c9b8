/** What the document says of rows and singers at their borders: promises 1 to 9 where they don't throw. */
public final class ComersTest {
    private static final Checks CHECKS = new Checks();

    public static void main(String[] args) {
        newObject();
        objectsOfTheirOwn();
        fourRowsOfSix();
        bordersOfHeights();
        voices();
        numbersAreKept();
        numbersOfThoseGone();
        atMost999();
        joinAtTheRightEnd();
        leaveEachPlace();
        leaveUntilNobody();
        growBorders();
        swapOfEachTwo();
        swapCountsOddOnes();
        crossEachPlace();
        crossBorders();
        turnEachSize();
        setBorders();
        CHECKS.close();
    }

    private static OddChoir row(int row, int... heights) {
        OddChoir x = new OddChoir();
        Choirs.fill(x, row, heights);
        return x;
    }

    private static void newObject() {
        for (int row = 0; row < 4; row++) {
            int empty = row;
            int[] dues = {0, 0, 0, 0, 0, 0, OddChoir.NONE};
            for (int what = 0; what <= 6; what++) {
                int which = what;
                CHECKS.due("1 new: row " + row + ", what " + what, dues[what], () -> new OddChoir().row(empty, which));
            }
        }
        CHECKS.due("1 new: an ear reaches 6 at first", 6, () -> new OddChoir().count(6));
        CHECKS.due("1 new: the row behind is heard at first", 1, () -> new OddChoir().count(7));
        CHECKS.due("1 new: an empty buffer", 0, () -> new OddChoir().clearBuffer());
        CHECKS.compare("1 new: without a snapshot", IllegalStateException.class,
            Twins.answer(new OddChoir(), OddChoir::restore));
        CHECKS.due("1 new: no saved state", 0, () -> new OddChoir().count(8));
        CHECKS.due("1 new: the first number is 0", 0, () -> new OddChoir().join(3, 150, 0));
        CHECKS.due("the constant NONE", -1, () -> OddChoir.NONE);
    }

    private static void objectsOfTheirOwn() {
        OddChoir x = Twins.busy();
        OddChoir y = new OddChoir();
        y.append('a');
        y.join(0, 100, 0);
        y.keep();
        CHECKS.compare("1 new: an object of its own", Twins.whole(Twins.busy()), Twins.whole(x));
        CHECKS.compare("1 new: another one is new all the same", new OddChoir().digest(), new OddChoir().digest());
        CHECKS.due("1 new: no numbers of another one", 1, () -> y.join(0, 100, 0));
    }

    private static void fourRowsOfSix() {
        OddChoir x = new OddChoir();
        for (int singer = 0; singer < 24; singer++) {
            int number = singer;
            CHECKS.due("2 join: singer's number " + singer, number, () -> x.join(number / 6, 150, 0));
            CHECKS.due("20 find: 6 times the row and the place, " + singer, number, () -> x.find(number));
        }
        for (int row = 0; row < 4; row++) {
            int full = row;
            CHECKS.due("six singers in row " + row, 6, () -> x.row(full, 0));
            CHECKS.compare("not seven in row " + row, IllegalStateException.class,
                Twins.answer(x, y -> y.join(full, 150, 0)));
        }
        CHECKS.due("21 count: twenty-four singers", 24, () -> x.count(0));
        CHECKS.due("24 bestRow: no row with room", OddChoir.NONE, () -> x.bestRow(160));
        x.leave(2, 3);
        CHECKS.due("2 join: room again", 24, () -> x.join(2, 150, 0));
    }

    private static void bordersOfHeights() {
        OddChoir x = new OddChoir();
        x.join(0, 100, 0);
        x.join(0, 220, 0);
        x.grow(0, 0, 220);
        x.grow(0, 1, 100);
        CHECKS.due("a height of 220", 220, () -> x.singer(0, 0, 1));
        CHECKS.due("a height of 100", 100, () -> x.singer(0, 1, 1));
        CHECKS.due("220 is higher than 100", 1, () -> x.singer(0, 1, 6));
    }

    private static void voices() {
        OddChoir x = new OddChoir();
        for (int voice = 0; voice <= 3; voice++) {
            int which = voice;
            x.join(1, 150, voice);
            CHECKS.due("voice " + voice, voice, () -> x.singer(1, which, 2));
        }
        CHECKS.compare("0 bass, 1 tenor, 2 alto, 3 soprano", "150b 150t 150a 150s", Choirs.text(x, 1));
    }

    private static void numbersAreKept() {
        OddChoir x = row(0, 150, 160, 170);
        Choirs.fill(x, 1, 180, 140);
        x.grow(0, 1, 220);
        CHECKS.compare("numbers are kept: grow", "0 1 2", Choirs.numbers(x, 0));
        x.turn(0);
        CHECKS.compare("numbers are kept: turn", "2 1 0", Choirs.numbers(x, 0));
        x.sort(0, 0);
        CHECKS.compare("numbers are kept: sort", "0 2 1", Choirs.numbers(x, 0));
        x.swap(0, 0, 1, 1);
        CHECKS.compare("numbers are kept: swap", "4 2 1", Choirs.numbers(x, 0));
        x.cross(0, 0, 1);
        CHECKS.compare("numbers are kept: cross", "3 0 4", Choirs.numbers(x, 1));
        x.leave(1, 0);
        CHECKS.compare("numbers are kept: leave", "0 4", Choirs.numbers(x, 1));
        x.set(0, 1);
        CHECKS.compare("numbers are kept: set", "2 1", Choirs.numbers(x, 0));
    }

    private static void numbersOfThoseGone() {
        OddChoir x = row(0, 150, 160);
        CHECKS.due("3 leave: the singer's number", 1, () -> x.leave(0, 1));
        CHECKS.due("2 join: a number is not given twice", 2, () -> x.join(0, 150, 0));
        CHECKS.due("20 find: who left is in no row", OddChoir.NONE, () -> x.find(1));
        CHECKS.due("20 find: who came then", 1, () -> x.find(2));
        CHECKS.due("20 find: who comes next is in no row", OddChoir.NONE, () -> x.find(3));
        CHECKS.due("20 find: far beyond", OddChoir.NONE, () -> x.find(Integer.MAX_VALUE));
        x.undo();
        CHECKS.due("20 find: whose coming is undone", OddChoir.NONE, () -> x.find(2));
        x.undo();
        CHECKS.due("20 find: whose leaving is undone", 1, () -> x.find(1));
    }

    /** 512 calls don't get so far, so that the document leaves free what this answers; the class keeps to it. */
    private static void atMost999() {
        OddChoir x = new OddChoir();
        for (int number = 0; number < 998; number++) {
            x.join(0, 150, 0);
            x.leave(0, 0);
        }
        CHECKS.due("2 join: the 999th who comes", 998, () -> x.join(0, 150, 0));
        CHECKS.refused("2 join: 999 came already", x, IllegalStateException.class, () -> x.join(0, 150, 0));
        CHECKS.refused("2 join: 999 came, and out of range", x, IllegalArgumentException.class,
            () -> x.join(0, 221, 0));
        CHECKS.refused("2 join: 999 came, and no such row", x, IndexOutOfBoundsException.class,
            () -> x.join(4, 150, 0));
        Choirs.type(x, "low:0;join:1,150b;turn:0");
        CHECKS.due("13 chant: 999 came already", 1, x::chant);
        CHECKS.due("20 find: the last number", 0, () -> x.find(998));
        CHECKS.due("21 count: came", 999, () -> x.count(2));
        CHECKS.due("21 count: left", 998, () -> x.count(3));
        x.leave(0, 0);
        CHECKS.refused("2 join: also if nobody is there", x, IllegalStateException.class, () -> x.join(0, 150, 0));
        x.undo();
        x.undo();
        x.undo();
        CHECKS.due("2 join: 998 came, the last one being undone", 998, () -> x.join(3, 150, 0));
    }

    private static void joinAtTheRightEnd() {
        OddChoir x = new OddChoir();
        StringBuilder due = new StringBuilder();
        for (int place = 0; place < 6; place++) {
            x.join(2, 200 - place, place % 4);
            due.append(place == 0 ? "" : " ").append(200 - place).append("btas".charAt(place % 4));
            CHECKS.compare("2 join: at the right end of " + place, due.toString(), Choirs.text(x, 2));
        }
        for (int row : new int[] {0, 1, 3}) {
            CHECKS.due("2 join: nobody in row " + row, 0, () -> x.row(row, 0));
        }
    }

    private static void leaveEachPlace() {
        for (int row = 0; row < 4; row++) {
            for (int place = 0; place < 6; place++) {
                OddChoir x = new OddChoir();
                Choirs.fill(x, (row + 1) % 4, 150, 160);
                Choirs.fill(x, row, 101, 102, 103, 104, 105, 106);
                int from = row;
                int at = place;
                CHECKS.due("3 leave: the number of place " + place, place + 2, () -> x.leave(from, at));
                String due = "2 3 4 5 6 7".replace((place + 2) + (place < 5 ? " " : ""), "").trim();
                CHECKS.compare("3 leave: those to the right move, " + place, due, Choirs.numbers(x, row));
                CHECKS.due("3 leave: no gap", 5, () -> x.row(from, 0));
                CHECKS.compare("3 leave: other rows stay", "0 1", Choirs.numbers(x, (row + 1) % 4));
                CHECKS.compare("3 leave: nobody at the last place", IndexOutOfBoundsException.class,
                    Twins.answer(x, y -> y.singer(from, 5, 0)));
            }
        }
    }

    private static void leaveUntilNobody() {
        OddChoir x = row(3, 150, 160);
        CHECKS.due("3 leave: the first", 0, () -> x.leave(3, 0));
        CHECKS.due("3 leave: the last one", 1, () -> x.leave(3, 0));
        CHECKS.compare("3 leave: nobody is left", IndexOutOfBoundsException.class, Twins.answer(x, y -> y.leave(3, 0)));
        CHECKS.due("3 leave: an empty row", OddChoir.NONE, () -> x.row(3, 6));
        CHECKS.due("2 join: at the place 0 again", 2, () -> x.join(3, 170, 0));
        CHECKS.compare("2 join: alone", "170b", Choirs.text(x, 3));
    }

    private static void growBorders() {
        OddChoir x = new OddChoir();
        x.join(3, 150, 3);
        CHECKS.due("4 grow: the previous height", 150, () -> x.grow(3, 0, 151));
        CHECKS.due("4 grow: to the same", 151, () -> x.grow(3, 0, 151));
        CHECKS.due("4 grow: also to a lesser one", 151, () -> x.grow(3, 0, 100));
        CHECKS.due("4 grow: from the lowest to the highest", 100, () -> x.grow(3, 0, 220));
        CHECKS.due("4 grow: from the highest", 220, () -> x.grow(3, 0, 150));
        CHECKS.compare("4 grow: the voice stays", "150s", Choirs.text(x, 3));
    }

    private static void swapOfEachTwo() {
        for (int first = 0; first < 24; first += 5) {
            for (int second = 0; second < 24; second++) {
                OddChoir x = new OddChoir();
                for (int singer = 0; singer < 24; singer++) {
                    x.join(singer / 6, 100 + singer * 37 % 121, singer % 4);
                }
                int odd = x.ifSwapped(first / 6, first % 6, second / 6, second % 6);
                int one = first;
                int other = second;
                String told = "5 swap " + first + " " + second;
                CHECKS.due(told + ": odd ones then", odd, () -> x.swap(one / 6, one % 6, other / 6, other % 6));
                CHECKS.due(told + ": all odd ones", odd, () -> x.count(1));
                CHECKS.due(told + ": the first one", second, () -> x.find(one));
                CHECKS.due(told + ": the other one", first, () -> x.find(other));
                CHECKS.due(told + ": its height", 100 + first * 37 % 121, () -> x.singer(other / 6, other % 6, 1));
                CHECKS.due(told + ": its voice", first % 4, () -> x.singer(other / 6, other % 6, 2));
                CHECKS.due(told + ": one swap", 1, () -> x.count(4));
                x.undo();
                for (int singer = 0; singer < 24; singer++) {
                    int number = singer;
                    CHECKS.due(told + ": undone", number, () -> x.find(number));
                }
            }
        }
    }

    private static void swapCountsOddOnes() {
        OddChoir x = row(0, 150, 160);
        CHECKS.due("5 swap: one is odd then", 1, () -> x.swap(0, 0, 0, 1));
        CHECKS.due("5 swap: none is odd then", 0, () -> x.swap(0, 1, 0, 0));
        Choirs.fill(x, 3, 150, 140);
        CHECKS.due("5 swap: singers of all rows", 1, () -> x.swap(0, 0, 0, 0));
        CHECKS.due("5 swap: singers of all rows, both", 2, () -> x.swap(0, 0, 0, 1));
    }

    private static void crossEachPlace() {
        for (int place = 0; place < 6; place++) {
            OddChoir x = row(1, 101, 102, 103, 104, 105, 106);
            Choirs.fill(x, 0, 150, 160);
            int at = place;
            CHECKS.due("6 cross: the place then", 2, () -> x.cross(1, at, 0));
            String due = "0 1 2 3 4 5".replace(place + (place < 5 ? " " : ""), "").trim();
            CHECKS.compare("6 cross: no gap at " + place, due, Choirs.numbers(x, 1));
            CHECKS.compare("6 cross: at the right end", "6 7 " + place, Choirs.numbers(x, 0));
            CHECKS.due("6 cross: the height goes along", 101 + place, () -> x.singer(0, 2, 1));
        }
    }

    private static void crossBorders() {
        OddChoir x = row(0, 150);
        x.join(0, 160, 3);
        Choirs.fill(x, 3, 101, 102, 103, 104, 105);
        CHECKS.due("6 cross: to the last place", 5, () -> x.cross(0, 1, 3));
        CHECKS.compare("6 cross: the voice goes along", "101b 102b 103b 104b 105b 160s", Choirs.text(x, 3));
        CHECKS.compare("6 cross: full then", IllegalStateException.class, Twins.answer(x, y -> y.cross(0, 0, 3)));
        CHECKS.due("6 cross: the only one to an empty row", 0, () -> x.cross(0, 0, 2));
        CHECKS.due("6 cross: nobody is left", 0, () -> x.row(0, 0));
        CHECKS.due("6 cross: from the last row to the first", 0, () -> x.cross(3, 5, 0));
        CHECKS.due("6 cross: nobody came", 7, () -> x.count(2));
        CHECKS.due("6 cross: nobody left so far", 0, () -> x.count(3));
        CHECKS.due("6 cross: all are there", 7, () -> x.count(0));
        CHECKS.due("6 cross: no swap", 0, () -> x.count(4));
    }

    private static void turnEachSize() {
        String[] dues = {"", "0", "1 0", "2 1 0", "3 2 1 0", "4 3 2 1 0", "5 4 3 2 1 0"};
        // in a falling row each second one is odd
        int[] odd = {0, 0, 1, 1, 2, 2, 3};
        for (int size = 0; size <= 6; size++) {
            for (int row = 0; row < 4; row++) {
                OddChoir x = new OddChoir();
                for (int place = 0; place < size; place++) {
                    x.join(row, 150 + place, 0);
                }
                int which = row;
                CHECKS.due("7 turn: odd ones of " + size, odd[size], () -> x.turn(which));
                CHECKS.compare("7 turn: " + size, dues[size], Choirs.numbers(x, row));
                CHECKS.due("7 turn: back, odd ones of " + size, 0, () -> x.turn(which));
                CHECKS.due("7 turn: back, discord of " + size, 0, () -> x.row(which, 2));
            }
        }
        OddChoir y = row(1, 150, 140);
        Choirs.fill(y, 0, 145);
        CHECKS.due("7 turn: odd ones of all rows, an empty row turned", 2, () -> y.turn(3));
        CHECKS.due("7 turn: who hears another one then", 0, () -> y.turn(1));
    }

    private static void setBorders() {
        OddChoir x = new OddChoir();
        CHECKS.due("9 set: the previous reach, at first 6", 6, () -> x.set(0, 1));
        CHECKS.due("9 set: the previous reach, the least", 1, () -> x.set(0, 6));
        CHECKS.due("9 set: the previous reach, the greatest", 6, () -> x.set(0, 6));
        CHECKS.due("9 set: the row behind, at first 1", 1, () -> x.set(1, 0));
        CHECKS.due("9 set: the row behind, 0", 0, () -> x.set(1, 0));
        CHECKS.due("9 set: the row behind, 0 again", 0, () -> x.set(1, 1));
        CHECKS.due("9 set: the reach stays", 6, () -> x.count(6));
        x.set(0, 3);
        CHECKS.due("9 set: the row behind stays", 1, () -> x.count(7));
        CHECKS.due("21 count: setting 0", 3, () -> x.count(6));
    }
}
