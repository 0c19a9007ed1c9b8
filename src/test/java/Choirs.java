/** What several tests need of choirs. */
final class Choirs {
    private Choirs() {
    }

    /** A row of these heights, all basses. */
    static void fill(OddChoir choir, int row, int... heights) {
        for (int height : heights) {
            choir.join(row, height, 0);
        }
    }

    static void type(OddChoir choir, String text) {
        for (int i = 0; i < text.length(); i++) {
            choir.append(text.charAt(i));
        }
    }

    /** A new object with this in its buffer. */
    static OddChoir typed(String text) {
        OddChoir choir = new OddChoir();
        type(choir, text);
        return choir;
    }

    static String text(OddChoir choir, int row) {
        StringBuilder text = new StringBuilder();
        for (int i = 0; i < 40 && choir.written(row, i) != OddChoir.NONE; i++) {
            text.append((char) choir.written(row, i));
        }
        return text.toString();
    }

    /** The numbers of a row's singers, as "3 0 1". */
    static String numbers(OddChoir choir, int row) {
        StringBuilder text = new StringBuilder();
        for (int place = 0; place < choir.row(row, 0); place++) {
            text.append(place == 0 ? "" : " ").append(choir.singer(row, place, 0));
        }
        return text.toString();
    }
}
