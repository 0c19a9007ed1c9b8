/** Promises 10 to 14: append, clearBuffer, firstError, chant, written. */
public final class TextsTest {
    private static final Checks CHECKS = new Checks();
    private static final Class<IndexOutOfBoundsException> INDEX = IndexOutOfBoundsException.class;
    private static final Class<IllegalArgumentException> ARGUMENT = IllegalArgumentException.class;
    private static final Class<IllegalStateException> STATE = IllegalStateException.class;

    public static void main(String[] args) {
        append();
        wellBegun();
        misfits();
        chantEachWord();
        chantStops();
        chantIncomplete();
        chantUndone();
        written();
        CHECKS.close();
    }

    private static void append() {
        OddChoir x = new OddChoir();
        CHECKS.refused("append 32", x, ARGUMENT, () -> x.append(32));
        CHECKS.refused("append 127", x, ARGUMENT, () -> x.append(127));
        CHECKS.refused("append 65536 + 65", x, ARGUMENT, () -> x.append(65536 + 65));
        CHECKS.due("append 33", 1, () -> x.append(33));
        CHECKS.due("append 126", 2, () -> x.append(126));
        for (int length = 3; length <= 60; length++) {
            CHECKS.due("append up to " + length, length, () -> x.append('a'));
        }
        CHECKS.refused("append a 61st", x, STATE, () -> x.append('a'));
        CHECKS.refused("append a 61st that is none", x, ARGUMENT, () -> x.append(10));
        CHECKS.due("append is not undoable", 0, () -> x.count(8));
        CHECKS.due("clearBuffer", 60, x::clearBuffer);
        CHECKS.due("clearBuffer of an empty one", 0, x::clearBuffer);
        CHECKS.due("clearBuffer is not undoable", 0, () -> x.count(8));
        CHECKS.due("append anew", 1, () -> x.append('j'));
    }

    private static void wellBegun() {
        String[] texts = {"", "j", "join:3,220s", "join:0,219b", "join:1,209t", "join:2,199a", "join:2,100b;",
            "swap:2,05", "swap:0,50;swap:3,33", "turn:3", "low:0;high:1;voice:2;turn:3;", "join:0,2", "join:0,22",
            "join:0,15", "voice", "high:", "low:0;low:0;low:0;low:0;low:0;low:0;low:0;low:0;low:0;low:0;"};
        for (String text : texts) {
            OddChoir x = Choirs.typed(text);
            CHECKS.due("firstError of " + text, text.length(), x::firstError);
        }
    }

    private static void misfits() {
        String[] texts = {"x", "J", ";", ":", "jx", "jo:", "low0", "turn:4", "turn:/", "join:0;", "join:0,0",
            "join:0,3", "join:0,23", "join:0,221", "join:0,15x", "join:0,150x", "join:0,150B", "join:0,150b,",
            "join:0,150bb", "join:0,1:", "join:0,1/", "join:0,15:", "join:0,15/", "join:4", "swap:0,6", "swap:0,56", "swap:0,555", "swap:0;", "low:0,", "low:0;;",
            "low:0;x", "high:0high", "voice:3:", "R", "low:R", "swap:0,P", "join:0,A", "lo;", "low:0;lox"};
        int[] dues = {0, 0, 0, 0, 1, 2, 3, 5, 5, 6, 7,
            7, 8, 9, 9, 10, 10, 11,
            11, 8, 8, 9, 9, 5, 7, 8, 9, 6, 5, 6,
            6, 6, 7, 0, 4, 7, 7, 2, 8};
        for (int i = 0; i < texts.length; i++) {
            OddChoir x = Choirs.typed(texts[i] + "~~");
            CHECKS.due("firstError of " + texts[i], dues[i], x::firstError);
            CHECKS.refused("chant of " + texts[i], x, ARGUMENT, x::chant);
        }
    }

    private static int chant(OddChoir x, String text) {
        Choirs.type(x, text);
        return x.chant();
    }

    private static void chantEachWord() {
        OddChoir x = new OddChoir();
        CHECKS.due("chant join", 4, () -> chant(x, "join:3,150b;join:3,220t;join:3,100a;join:3,209s"));
        CHECKS.compare("chant join: row", "150b 220t 100a 209s", Choirs.text(x, 3));
        CHECKS.due("chant clears the buffer", 0, x::clearBuffer);
        CHECKS.due("chant is undoable as one call", 1, () -> x.count(8));
        CHECKS.due("chant swap", 2, () -> chant(x, "swap:3,03;swap:3,11"));
        CHECKS.compare("chant swap: row", "3 1 2 0", Choirs.numbers(x, 3));
        CHECKS.due("chant swap: counted", 2, () -> x.count(4));
        CHECKS.due("chant turn", 1, () -> chant(x, "turn:3"));
        CHECKS.compare("chant turn: row", "0 2 1 3", Choirs.numbers(x, 3));
        CHECKS.due("chant low", 1, () -> chant(x, "low:3"));
        CHECKS.compare("chant low: row", "2 0 3 1", Choirs.numbers(x, 3));
        CHECKS.due("chant high", 1, () -> chant(x, "high:3"));
        CHECKS.compare("chant high: row", "1 3 0 2", Choirs.numbers(x, 3));
        CHECKS.due("chant voice", 1, () -> chant(x, "voice:3"));
        CHECKS.compare("chant voice: row", "0 1 2 3", Choirs.numbers(x, 3));
        CHECKS.due("chant: turn and sorts are no swaps", 2, () -> x.count(4));
        CHECKS.due("chant of all words", 6,
            () -> chant(x, "turn:3;low:2;join:2,111t;voice:3;swap:3,20;high:0"));
        CHECKS.compare("chant of all words: row 3", "2 1 0 3", Choirs.numbers(x, 3));
        CHECKS.compare("chant of all words: row 2", "111t", Choirs.text(x, 2));
    }

    private static void chantStops() {
        OddChoir x = new OddChoir();
        CHECKS.due("chant: a swap of nobody", 1, () -> chant(x, "join:0,150b;swap:0,01;join:0,160b"));
        CHECKS.compare("chant: what is before stands", "150b", Choirs.text(x, 0));
        CHECKS.due("chant: a swap not done is not counted", 0, () -> x.count(4));
        CHECKS.due("chant: the buffer is cleared all the same", 0, x::clearBuffer);
        CHECKS.due("chant: nothing is done", 0, () -> chant(x, "swap:1,00"));
        CHECKS.due("chant: undoable also then", 2, () -> x.count(8));
        CHECKS.due("chant: a swap of nobody first", 0, () -> chant(x, "swap:0,10"));
        Choirs.fill(x, 0, 151, 152, 153, 154);
        CHECKS.due("chant: a full row", 1, () -> chant(x, "join:0,155b;join:0,156b;turn:0"));
        CHECKS.compare("chant: up to the full row", "150b 151b 152b 153b 154b 155b", Choirs.text(x, 0));
        CHECKS.due("chant: last places", 2, () -> chant(x, "swap:0,05;swap:0,55"));
    }

    private static void chantIncomplete() {
        String[] texts = {"", "t", "turn", "turn:", "turn:0;", "join:0,150", "swap:0,0", "low:0;high", "voice:0;;"};
        for (String text : texts) {
            OddChoir x = Choirs.typed(text);
            x.join(0, 150, 0);
            CHECKS.refused("chant of '" + text + "'", x, ARGUMENT, x::chant);
            CHECKS.due("chant: the buffer stays", text.length(), x::clearBuffer);
        }
    }

    private static void chantUndone() {
        OddChoir x = new OddChoir();
        chant(x, "join:0,150b;join:0,140t;join:1,160a");
        chant(x, "swap:0,01;turn:1;join:1,170s");
        Choirs.type(x, "low:0");
        CHECKS.due("chant undone", 1, x::undo);
        CHECKS.compare("chant undone: row 0", "150b 140t", Choirs.text(x, 0));
        CHECKS.compare("chant undone: row 1", "160a", Choirs.text(x, 1));
        CHECKS.due("chant undone: swaps", 0, () -> x.count(4));
        CHECKS.due("undo leaves the buffer", 5, x::clearBuffer);
        CHECKS.due("chant undone twice", 0, x::undo);
        CHECKS.due("chant undone: nobody", 0, () -> x.count(0));
    }

    private static void written() {
        OddChoir x = new OddChoir();
        x.join(1, 100, 0);
        x.join(1, 220, 1);
        x.join(1, 209, 2);
        x.join(1, 137, 3);
        String due = "100b 220t 209a 137s";
        for (int i = 0; i < due.length(); i++) {
            int index = i;
            CHECKS.due("written at " + i, due.charAt(i), () -> x.written(1, index));
        }
        CHECKS.due("written behind the end", OddChoir.NONE, () -> x.written(1, due.length()));
        CHECKS.due("written far behind", OddChoir.NONE, () -> x.written(1, Integer.MAX_VALUE));
        CHECKS.due("written of nobody", OddChoir.NONE, () -> x.written(0, 0));
        CHECKS.refused("written row -1", x, INDEX, () -> x.written(-1, -1));
        CHECKS.refused("written row 4", x, INDEX, () -> x.written(4, 0));
        CHECKS.refused("written index -1", x, ARGUMENT, () -> x.written(1, -1));
        CHECKS.due("written changes nothing", 4, () -> x.count(8));
    }
}
