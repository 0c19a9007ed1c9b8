/** What the document says of the buffer and of chants as a text, sign by sign: promises 10 to 14. */
public final class GrammarTest {
    private static final Checks CHECKS = new Checks();
    private static final Class<IllegalArgumentException> ARGUMENT = IllegalArgumentException.class;
    private static final String DIGITS = "0123456789";
    private static final String BEGINNINGS = "jstlhv";

    /** What stands in the buffer, and every sign that may come next. */
    private static final String[][] NEXT = {
        {"", BEGINNINGS},
        {"j", "o"}, {"jo", "i"}, {"joi", "n"}, {"join", ":"}, {"join:", "0123"}, {"join:0", ","}, {"join:3", ","},
        {"join:0,", "12"}, {"join:0,1", DIGITS}, {"join:0,2", "012"}, {"join:0,10", DIGITS}, {"join:0,12", DIGITS},
        {"join:0,19", DIGITS}, {"join:0,20", DIGITS}, {"join:0,21", DIGITS}, {"join:0,22", "0"},
        {"join:2,12", DIGITS}, {"join:2,22", "0"}, {"join:2,2", "012"},
        {"join:0,100", "btas"}, {"join:0,122", "btas"}, {"join:0,220", "btas"},
        {"join:0,150b", ";"}, {"join:0,150t", ";"}, {"join:0,150a", ";"}, {"join:0,150s", ";"},
        {"s", "w"}, {"sw", "a"}, {"swa", "p"}, {"swap", ":"}, {"swap:", "0123"}, {"swap:0", ","}, {"swap:3", ","},
        {"swap:0,", "012345"}, {"swap:0,0", "012345"}, {"swap:0,5", "012345"}, {"swap:0,05", ";"},
        {"swap:0,00", ";"}, {"swap:3,55", ";"},
        {"t", "u"}, {"tu", "r"}, {"tur", "n"}, {"turn", ":"}, {"turn:", "0123"}, {"turn:0", ";"}, {"turn:3", ";"},
        {"l", "o"}, {"lo", "w"}, {"low", ":"}, {"low:", "0123"}, {"low:0", ";"}, {"low:3", ";"},
        {"h", "i"}, {"hi", "g"}, {"hig", "h"}, {"high", ":"}, {"high:", "0123"}, {"high:0", ";"}, {"high:3", ";"},
        {"v", "o"}, {"vo", "i"}, {"voi", "c"}, {"voic", "e"}, {"voice", ":"}, {"voice:", "0123"},
        {"voice:0", ";"}, {"voice:3", ";"},
    };

    public static void main(String[] args) {
        nextSigns("");
        for (String before : new String[] {"turn:3;", "join:3,220s;", "swap:3,55;", "low:0;high:1;voice:2;"}) {
            nextSigns(before);
        }
        firstOfSeveralErrors();
        eachHeight();
        emptyBuffer();
        fullBuffer();
        textLongerThanTheBuffer();
        completeOnly();
        completeFull();
        emptyParts();
        firstErrorChangesNothing();
        CHECKS.close();
    }

    private static void nextSigns(String before) {
        for (String[] row : NEXT) {
            for (char sign = 33; sign <= 126; sign++) {
                OddChoir x = Choirs.typed(before + row[0]);
                x.append(sign);
                int due = before.length() + row[0].length() + (row[1].indexOf(sign) >= 0 ? 1 : 0);
                CHECKS.due("12 firstError of " + before + row[0] + sign, due, x::firstError);
            }
        }
    }

    private static void firstOfSeveralErrors() {
        OddChoir x = Choirs.typed("join:4,99x;low:9");
        CHECKS.due("12 firstError: the first of several", 5, x::firstError);
        OddChoir y = Choirs.typed("~");
        CHECKS.due("12 firstError: at the start", 0, y::firstError);
        Choirs.type(y, "low:0");
        CHECKS.due("12 firstError: what is behind does not mend it", 0, y::firstError);
        y.clearBuffer();
        CHECKS.due("12 firstError: nothing, the buffer being cleared", 0, y::firstError);
        Choirs.type(y, "low:0");
        CHECKS.due("12 firstError: none then", 5, y::firstError);
    }

    private static void eachHeight() {
        for (int height = 90; height <= 230; height++) {
            String text = "join:1," + height + "a";
            boolean inRange = height >= 100 && height <= 220;
            OddChoir x = Choirs.typed(text);
            if (inRange) {
                CHECKS.due("12 firstError: height " + height, text.length(), x::firstError);
                CHECKS.due("13 chant: height " + height, 1, x::chant);
                CHECKS.compare("14 written: height " + height, height + "a", Choirs.text(x, 1));
                int given = height;
                CHECKS.due("18 singer: height " + height, given, () -> x.singer(1, 0, 1));
            } else {
                CHECKS.holds("12 firstError: height " + height, x.firstError() < text.length());
                CHECKS.refused("13 chant: height " + height, x, ARGUMENT, x::chant);
            }
        }
    }

    private static void emptyBuffer() {
        OddChoir x = new OddChoir();
        CHECKS.due("12 firstError: an empty buffer has none", 0, x::firstError);
        CHECKS.due("11 clearBuffer: an empty one", 0, x::clearBuffer);
        CHECKS.refused("13 chant: an empty buffer is no chants", x, ARGUMENT, x::chant);
        CHECKS.due("10 append: the first one", 1, () -> x.append('v'));
        CHECKS.due("11 clearBuffer: one", 1, x::clearBuffer);
        CHECKS.due("11 clearBuffer: nothing is left", 0, x::clearBuffer);
    }

    private static void fullBuffer() {
        OddChoir x = Choirs.typed("~".repeat(59));
        CHECKS.due("10 append: the sixtieth", 60, () -> x.append('~'));
        CHECKS.refused("10 append: not a sixty-first", x, IllegalStateException.class, () -> x.append('~'));
        CHECKS.due("11 clearBuffer: a full one", 60, x::clearBuffer);
        CHECKS.due("10 append: after a full one", 1, () -> x.append('~'));
        OddChoir y = Choirs.typed("low:0;".repeat(9) + "low:0");
        y.append(';');
        CHECKS.refused("13 chant: sixty with a ; at the end", y, ARGUMENT, y::chant);
        CHECKS.due("12 firstError: sixty without one", 60, y::firstError);
        OddChoir z = Choirs.typed("low:0;".repeat(9) + "low:0");
        z.append('~');
        CHECKS.due("12 firstError: the sixtieth", 59, z::firstError);
    }

    /** "no chants as a text, of any length": what would be complete only beyond 60 is no error. */
    private static void textLongerThanTheBuffer() {
        String[] ends = {"turn:", "swap:0", "join:0", "voice:", "high:2", "j"};
        for (String end : ends) {
            String text = "low:0;".repeat(9) + end;
            OddChoir x = Choirs.typed(text);
            CHECKS.due("12 firstError: unfinished at " + text.length(), text.length(), x::firstError);
            if (text.length() == 60 && !end.equals("high:2")) {
                CHECKS.refused("13 chant: unfinished at 60", x, ARGUMENT, x::chant);
            }
        }
        OddChoir y = Choirs.typed("join:0,150b;".repeat(4) + "turn:0;swap:");
        CHECKS.due("12 firstError: no room for the part, no error", 60, y::firstError);
        CHECKS.refused("13 chant: no room for the part", y, ARGUMENT, y::chant);
    }

    private static void completeOnly() {
        String text = "join:2,220s;swap:2,00;turn:2;low:2;high:2;voice:2";
        for (int length = 0; length <= text.length(); length++) {
            boolean complete = length == text.length() || text.charAt(length) == ';';
            OddChoir x = Choirs.typed(text.substring(0, length));
            CHECKS.due("12 firstError of so many: " + length, length, x::firstError);
            if (complete) {
                int parts = text.substring(0, length).split(";").length;
                CHECKS.due("13 chant of so many: " + length, parts, x::chant);
                CHECKS.due("13 chant: clears the buffer of " + length, 0, x::clearBuffer);
            } else {
                CHECKS.refused("13 chant of so many: " + length, x, ARGUMENT, x::chant);
                CHECKS.due("13 chant: the buffer stays", length, x::clearBuffer);
            }
        }
    }

    private static void completeFull() {
        OddChoir x = Choirs.typed("high:2;".repeat(6) + "join:2,150b;turn:2");
        CHECKS.due("12 firstError: sixty, complete", 60, x::firstError);
        CHECKS.due("13 chant: sixty, complete", 8, x::chant);
        CHECKS.due("13 chant: clears a full buffer", 0, x::clearBuffer);
        CHECKS.due("13 chant: the last part is done too", 1, () -> x.row(2, 0));
        OddChoir y = Choirs.typed("low:0;".repeat(9) + "low:0");
        CHECKS.due("13 chant: the most parts", 10, y::chant);
    }

    private static void emptyParts() {
        String[] texts = {";", ";low:0", "low:0;", "low:0;;low:0", ";;", "low:0;;"};
        int[] errors = {0, 0, 6, 6, 0, 6};
        for (int i = 0; i < texts.length; i++) {
            OddChoir x = Choirs.typed(texts[i]);
            CHECKS.due("12 firstError of " + texts[i], errors[i], x::firstError);
            CHECKS.refused("13 chant of " + texts[i], x, ARGUMENT, x::chant);
        }
    }

    private static void firstErrorChangesNothing() {
        Twins twins = new Twins(CHECKS);
        twins.changesNothing("12 firstError", Twins::busy, OddChoir::firstError);
        twins.changesNothing("14 written", Twins::busy, x -> x.written(1, 5));
    }
}
