import java.util.Random;

/** Runs of 512 calls by fixed seeds: every call answers, or throws, what the model does. */
public final class RunsTest {
    private static final int RUNS = 120;
    private static final int CALLS = 512;
    private static final int[] HEIGHTS = {100, 101, 150, 150, 160, 170, 199, 219, 220};
    private static final int[] WRONG = {Integer.MIN_VALUE, -2, -1, 4, 6, 7, 8, 9, 99, 221, 999, Integer.MAX_VALUE};
    private static final String[] WORDS = {"join:", "swap:", "turn:", "low:", "high:", "voice:"};

    private static final Checks CHECKS = new Checks();

    private final Random chance;
    private final OddChoir choir = new OddChoir();
    private final Model model = new Model();
    private final StringBuilder told = new StringBuilder();
    private String toType = "";

    private RunsTest(int seed) {
        chance = new Random(seed);
    }

    public static void main(String[] args) {
        for (int seed = 1; seed <= RUNS; seed++) {
            new RunsTest(seed).run(seed);
        }
        CHECKS.close();
    }

    private void run(int seed) {
        for (int call = 0; call < CALLS / 2; call++) {
            String wrong = oneCall();
            if (wrong == null && model.digest() != choir.digest()) {
                wrong = "the digest";
            }
            if (wrong != null) {
                CHECKS.compare("run " + seed + ":" + told, "as the model", wrong);
                return;
            }
        }
        CHECKS.holds("run " + seed, true);
    }

    private int pick(int bound) {
        return chance.nextInt(25) == 0 ? WRONG[chance.nextInt(WRONG.length)] : chance.nextInt(bound);
    }

    private int height() {
        return chance.nextInt(25) == 0 ? WRONG[chance.nextInt(WRONG.length)]
            : chance.nextBoolean() ? HEIGHTS[chance.nextInt(HEIGHTS.length)] : 100 + chance.nextInt(121);
    }

    private int place(int row) {
        int size = row >= 0 && row < 4 ? model.row(row, 0) : 0;
        return chance.nextInt(12) == 0 || size == 0 ? pick(6) : chance.nextInt(size);
    }

    private String text() {
        StringBuilder text = new StringBuilder();
        int parts = 1 + chance.nextInt(5);
        for (int part = 0; part < parts; part++) {
            String word = WORDS[chance.nextInt(WORDS.length)];
            text.append(part == 0 ? "" : ";").append(word).append(chance.nextInt(4));
            if (word.equals("join:")) {
                text.append(',').append(100 + chance.nextInt(121)).append("btas".charAt(chance.nextInt(4)));
            } else if (word.equals("swap:")) {
                text.append(',').append(chance.nextInt(6)).append(chance.nextInt(6));
            }
        }
        if (chance.nextInt(3) == 0) {
            text.setCharAt(chance.nextInt(text.length()), (char) (33 + chance.nextInt(94)));
        }
        return text.toString();
    }

    private String oneCall() {
        if (!toType.isEmpty()) {
            int code = toType.charAt(0);
            toType = toType.substring(1);
            return same("append " + code, () -> choir.append(code), () -> model.append(code));
        }
        int kind = chance.nextInt(30);
        int row = pick(4);
        int place = place(row);
        int other = pick(4);
        int otherPlace = place(other);
        int height = height();
        int what = pick(9);
        return kind < 16 ? change(kind, row, place, other, otherPlace, height, what)
            : look(kind, row, place, other, otherPlace, height, what);
    }

    private String change(int kind, int row, int place, int other, int otherPlace, int height, int what) {
        String told = row + " " + place + " " + other + " " + otherPlace + " " + height + " " + what;
        switch (kind) {
            case 0, 1, 2, 3, 4:
                int voice = pick(4);
                return same("join " + told + " " + voice, () -> choir.join(row, height, voice),
                    () -> model.join(row, height, voice));
            case 5:
                return same("leave " + told, () -> choir.leave(row, place), () -> model.leave(row, place));
            case 6:
                return same("grow " + told, () -> choir.grow(row, place, height),
                    () -> model.grow(row, place, height));
            case 7:
                return same("swap " + told, () -> choir.swap(row, place, other, otherPlace),
                    () -> model.swap(row, place, other, otherPlace));
            case 8:
                return same("cross " + told, () -> choir.cross(row, place, other),
                    () -> model.cross(row, place, other));
            case 9:
                return same("turn " + told, () -> choir.turn(row), () -> model.turn(row));
            case 10:
                int how = pick(3);
                return same("sort " + told + " " + how, () -> choir.sort(row, how), () -> model.sort(row, how));
            case 11:
                int setting = pick(2);
                int value = setting == 1 ? pick(2) : pick(7);
                return same("set " + setting + " " + value, () -> choir.set(setting, value),
                    () -> model.set(setting, value));
            case 12:
                return chance.nextInt(3) == 0 ? same("chant", choir::chant, model::chant) : type();
            case 13:
                return same("undo", choir::undo, model::undo);
            case 14:
                return same("keep", choir::keep, model::keep);
            default:
                return chance.nextInt(3) == 0 ? same("restore", choir::restore, model::restore)
                    : same("undo", choir::undo, model::undo);
        }
    }

    /** Clears the buffer and begins a text; now and then what is there is done before. */
    private String type() {
        String wrong = chance.nextBoolean() ? same("chant", choir::chant, model::chant) : null;
        toType = text();
        return wrong != null ? wrong : same("clearBuffer", choir::clearBuffer, model::clearBuffer);
    }

    private String look(int kind, int row, int place, int other, int otherPlace, int height, int what) {
        String told = row + " " + place + " " + other + " " + otherPlace + " " + height + " " + what;
        switch (kind) {
            case 16, 17:
                return same("singer " + told, () -> choir.singer(row, place, what),
                    () -> model.singer(row, place, what));
            case 18, 19:
                return same("row " + told, () -> choir.row(row, what), () -> model.row(row, what));
            case 20:
                return same("find " + told, () -> choir.find(height / 4), () -> model.find(height / 4));
            case 21:
                return same("count " + told, () -> choir.count(what), () -> model.count(what));
            case 22:
                return same("ifSwapped " + told, () -> choir.ifSwapped(row, place, other, otherPlace),
                    () -> model.ifSwapped(row, place, other, otherPlace));
            case 23:
                return same("bestSwap " + told, () -> choir.bestSwap(row), () -> model.bestSwap(row));
            case 24:
                return same("bestRow " + told, () -> choir.bestRow(height), () -> model.bestRow(height));
            case 25:
                return same("ifReach " + told, () -> choir.ifReach(what), () -> model.ifReach(what));
            case 26:
                return same("oddShare", () -> Double.doubleToLongBits(choir.oddShare()),
                    () -> Double.doubleToLongBits(model.oddShare()));
            case 27:
                int index = pick(30);
                return same("written " + row + " " + index, () -> choir.written(row, index),
                    () -> model.written(row, index));
            case 28:
                return same("firstError", choir::firstError, model::firstError);
            default:
                return same("chant", choir::chant, model::chant);
        }
    }

    private String same(String call, Checks.Call ours, Checks.Call due) {
        told.append(' ').append(call).append(';');
        Object got = answer(ours);
        Object want = answer(due);
        return got.equals(want) ? null : call + ": " + got + " and not " + want;
    }

    /** The class is compared as it is: one that the machine throws is a class below the due one. */
    private static Object answer(Checks.Call call) {
        try {
            return call.answer();
        } catch (RuntimeException e) {
            return e.getClass();
        }
    }
}
