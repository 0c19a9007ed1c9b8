import java.util.ArrayList;
import java.util.List;
import java.util.regex.Matcher;
import java.util.regex.Pattern;

/**
 * A second OddChoir, by the document's words and without any care for speed: rows as lists, hearing as a question
 * about two singers, orders by trying all, texts by a regular expression.
 */
final class Model {
    private static final Pattern CHANTS;

    static {
        String part = "(join:[0-3],(1[0-9][0-9]|2[01][0-9]|220)[btas]|swap:[0-3],[0-5][0-5]|turn:[0-3]|low:[0-3]"
            + "|high:[0-3]|voice:[0-3])";
        CHANTS = Pattern.compile(part + "(;" + part + ")*");
    }

    record Singer(int number, int height, int voice) {
    }

    private record State(List<List<Singer>> rows, int reach, int behind, int came, int left, int swaps) {
    }

    private List<List<Singer>> rows = new ArrayList<>();
    private int reach = 6;
    private int behind = 1;
    private int came;
    private int left;
    private int swaps;
    private final List<State> saved = new ArrayList<>();
    private State snapshot;
    private String buffer = "";

    Model() {
        for (int row = 0; row < 4; row++) {
            rows.add(new ArrayList<>());
        }
    }

    private static List<List<Singer>> copy(List<List<Singer>> rows) {
        List<List<Singer>> copies = new ArrayList<>();
        for (List<Singer> row : rows) {
            copies.add(new ArrayList<>(row));
        }
        return copies;
    }

    private State state() {
        return new State(copy(rows), reach, behind, came, left, swaps);
    }

    private void become(State state) {
        rows = copy(state.rows);
        reach = state.reach;
        behind = state.behind;
        came = state.came;
        left = state.left;
        swaps = state.swaps;
    }

    private void save() {
        saved.add(state());
        if (saved.size() > 6) {
            saved.remove(0);
        }
    }

    private static void index(boolean holds) {
        if (!holds) {
            throw new IndexOutOfBoundsException();
        }
    }

    private static void argument(boolean holds) {
        if (!holds) {
            throw new IllegalArgumentException();
        }
    }

    private static void state(boolean holds) {
        if (!holds) {
            throw new IllegalStateException();
        }
    }

    private static void row(int row) {
        index(0 <= row && row < 4);
    }

    private Singer at(int row, int place) {
        row(row);
        index(0 <= place && place < rows.get(row).size());
        return rows.get(row).get(place);
    }

    int join(int row, int height, int voice) {
        row(row);
        argument(100 <= height && height <= 220);
        argument(0 <= voice && voice <= 3);
        state(rows.get(row).size() < 6 && came < 999);
        save();
        rows.get(row).add(new Singer(came, height, voice));
        return came++;
    }

    int leave(int row, int place) {
        at(row, place);
        save();
        left++;
        return rows.get(row).remove(place).number;
    }

    int grow(int row, int place, int height) {
        Singer one = at(row, place);
        argument(100 <= height && height <= 220);
        save();
        rows.get(row).set(place, new Singer(one.number, height, one.voice));
        return one.height;
    }

    private void exchange(int row, int place, int otherRow, int otherPlace) {
        Singer one = at(row, place);
        Singer other = at(otherRow, otherPlace);
        rows.get(row).set(place, other);
        rows.get(otherRow).set(otherPlace, one);
    }

    int swap(int row, int place, int otherRow, int otherPlace) {
        at(row, place);
        at(otherRow, otherPlace);
        save();
        exchange(row, place, otherRow, otherPlace);
        swaps++;
        return odd();
    }

    int cross(int row, int place, int to) {
        at(row, place);
        row(to);
        state(row != to && rows.get(to).size() < 6);
        save();
        rows.get(to).add(rows.get(row).remove(place));
        return rows.get(to).size() - 1;
    }

    int turn(int row) {
        row(row);
        save();
        java.util.Collections.reverse(rows.get(row));
        return odd();
    }

    int sort(int row, int how) {
        row(row);
        argument(0 <= how && how <= 2);
        save();
        rows.get(row).sort((a, b) -> how == 0 ? a.height - b.height : how == 1 ? b.height - a.height
            : a.voice - b.voice);
        return discord(rows.get(row));
    }

    int set(int setting, int value) {
        index(setting == 0 || setting == 1);
        argument(setting == 0 ? 1 <= value && value <= 6 : value == 0 || value == 1);
        save();
        int before = setting == 0 ? reach : behind;
        if (setting == 0) {
            reach = value;
        } else {
            behind = value;
        }
        return before;
    }

    int append(int code) {
        argument(33 <= code && code <= 126);
        state(buffer.length() < 60);
        buffer += (char) code;
        return buffer.length();
    }

    int clearBuffer() {
        int before = buffer.length();
        buffer = "";
        return before;
    }

    int firstError() {
        for (int length = 1; length <= buffer.length(); length++) {
            Matcher matcher = CHANTS.matcher(buffer.substring(0, length));
            if (!matcher.matches() && !matcher.hitEnd()) {
                return length - 1;
            }
        }
        return buffer.length();
    }

    int chant() {
        argument(CHANTS.matcher(buffer).matches());
        State before = state();
        List<State> savedBefore = new ArrayList<>(saved);
        int done = 0;
        try {
            for (String part : buffer.split(";")) {
                doPart(part.split(":")[0], part.split(":")[1]);
                done++;
            }
        } catch (IndexOutOfBoundsException | IllegalStateException impossible) {
            // the first part that is not possible ends it
        }
        saved.clear();
        saved.addAll(savedBefore);
        saved.add(before);
        if (saved.size() > 6) {
            saved.remove(0);
        }
        buffer = "";
        return done;
    }

    private void doPart(String word, String what) {
        int row = what.charAt(0) - '0';
        switch (word) {
            case "join" -> join(row, Integer.parseInt(what.substring(2, 5)), "btas".indexOf(what.charAt(5)));
            case "swap" -> swap(row, what.charAt(2) - '0', row, what.charAt(3) - '0');
            case "turn" -> turn(row);
            case "low" -> sort(row, 0);
            case "high" -> sort(row, 1);
            default -> sort(row, 2);
        }
    }

    private String text(int row) {
        List<String> texts = new ArrayList<>();
        for (Singer singer : rows.get(row)) {
            texts.add(singer.height + "" + "btas".charAt(singer.voice));
        }
        return String.join(" ", texts);
    }

    int written(int row, int index) {
        row(row);
        argument(index >= 0);
        return index < text(row).length() ? text(row).charAt(index) : -1;
    }

    int undo() {
        state(!saved.isEmpty());
        become(saved.remove(saved.size() - 1));
        return saved.size();
    }

    int keep() {
        snapshot = state();
        return all();
    }

    int restore() {
        state(snapshot != null);
        save();
        become(snapshot);
        return all();
    }

    private boolean hears(int row, int place, int otherRow, int otherPlace) {
        if (otherRow == row) {
            return place - reach <= otherPlace && otherPlace <= place - 1;
        }
        return behind == 1 && otherRow == row + 1 && place - reach <= otherPlace && otherPlace <= place;
    }

    private int heard(int row, int place, boolean higherOnly) {
        int heard = 0;
        for (int otherRow = 0; otherRow < 4; otherRow++) {
            for (int other = 0; other < rows.get(otherRow).size(); other++) {
                boolean higher = rows.get(otherRow).get(other).height > rows.get(row).get(place).height;
                if (hears(row, place, otherRow, other) && (higher || !higherOnly)) {
                    heard++;
                }
            }
        }
        return heard;
    }

    private int hearers(int row, int place) {
        int hearers = 0;
        for (int otherRow = 0; otherRow < 4; otherRow++) {
            for (int other = 0; other < rows.get(otherRow).size(); other++) {
                hearers += hears(otherRow, other, row, place) ? 1 : 0;
            }
        }
        return hearers;
    }

    private int odd(int row) {
        int odd = 0;
        for (int place = 0; place < rows.get(row).size(); place++) {
            odd += heard(row, place, true) % 2;
        }
        return odd;
    }

    private int odd() {
        return odd(0) + odd(1) + odd(2) + odd(3);
    }

    private int all() {
        return rows.get(0).size() + rows.get(1).size() + rows.get(2).size() + rows.get(3).size();
    }

    private static int discord(List<Singer> row) {
        int discord = 0;
        for (int i = 0; i < row.size(); i++) {
            for (int j = i + 1; j < row.size(); j++) {
                discord += row.get(i).height > row.get(j).height ? 1 : 0;
            }
        }
        return discord;
    }

    int singer(int row, int place, int what) {
        Singer one = at(row, place);
        argument(0 <= what && what <= 7);
        int higher = heard(row, place, true);
        int[] answers = {one.number, one.height, one.voice, heard(row, place, false), higher, higher, higher % 2,
            hearers(row, place)};
        return answers[what];
    }

    /** Breadth first over swaps of neighbours, so that the way is found by the document's own words. */
    private int[] mostAndWay(int row) {
        List<Singer> start = rows.get(row);
        List<List<Singer>> orders = new ArrayList<>();
        List<Integer> ways = new ArrayList<>();
        java.util.Set<List<Singer>> seen = new java.util.HashSet<>();
        orders.add(start);
        ways.add(0);
        seen.add(start);
        int most = -1;
        int way = 0;
        for (int at = 0; at < orders.size(); at++) {
            rows.set(row, orders.get(at));
            int odd = odd(row);
            if (odd > most) {
                most = odd;
                way = ways.get(at);
            }
            for (int place = 0; place + 1 < start.size(); place++) {
                List<Singer> next = new ArrayList<>(orders.get(at));
                java.util.Collections.swap(next, place, place + 1);
                if (seen.add(next)) {
                    orders.add(next);
                    ways.add(ways.get(at) + 1);
                }
            }
        }
        rows.set(row, start);
        return new int[] {most, way};
    }

    int row(int row, int what) {
        row(row);
        argument(0 <= what && what <= 6);
        List<Singer> singers = rows.get(row);
        switch (what) {
            case 0:
                return singers.size();
            case 1:
                return odd(row);
            case 2:
                return discord(singers);
            case 3:
                return discord(singers) % 2;
            case 4:
                return mostAndWay(row)[0];
            case 5:
                return mostAndWay(row)[1];
            default:
                return singers.stream().mapToInt(Singer::height).max().orElse(-1);
        }
    }

    int find(int number) {
        argument(number >= 0);
        for (int row = 0; row < 4; row++) {
            for (Singer singer : rows.get(row)) {
                if (singer.number == number) {
                    return 6 * row + rows.get(row).indexOf(singer);
                }
            }
        }
        return -1;
    }

    int count(int what) {
        argument(0 <= what && what <= 8);
        int discords = 0;
        for (List<Singer> row : rows) {
            discords += discord(row);
        }
        int[] answers = {all(), odd(), came, left, swaps, discords, reach, behind, saved.size()};
        return answers[what];
    }

    int ifSwapped(int row, int place, int otherRow, int otherPlace) {
        exchange(row, place, otherRow, otherPlace);
        int odd = odd();
        exchange(row, place, otherRow, otherPlace);
        return odd;
    }

    int bestSwap(int row) {
        row(row);
        int best = -1;
        int most = odd();
        for (int pair = 0; pair < 36; pair++) {
            int first = pair / 6;
            int second = pair % 6;
            if (first < second && second < rows.get(row).size() && ifSwapped(row, first, row, second) > most) {
                most = ifSwapped(row, first, row, second);
                best = pair;
            }
        }
        return best;
    }

    int bestRow(int height) {
        argument(100 <= height && height <= 220);
        int best = -1;
        int most = -1;
        for (int row = 0; row < 4; row++) {
            List<Singer> singers = rows.get(row);
            if (singers.size() < 6) {
                singers.add(new Singer(-1, height, 0));
                if (odd() > most) {
                    most = odd();
                    best = row;
                }
                singers.remove(singers.size() - 1);
            }
        }
        return best;
    }

    int ifReach(int far) {
        argument(1 <= far && far <= 6);
        int before = reach;
        reach = far;
        int odd = odd();
        reach = before;
        return odd;
    }

    double oddShare() {
        return all() == 0 ? 1.0 : odd() / (double) all();
    }

    long digest() {
        List<Long> values = new ArrayList<>();
        for (int what = 0; what <= 8; what++) {
            values.add((long) count(what));
        }
        for (int row = 0; row < 4; row++) {
            for (int what = 0; what <= 6; what++) {
                values.add((long) row(row, what));
            }
            for (int place = 0; place < rows.get(row).size(); place++) {
                for (int what = 0; what <= 7; what++) {
                    values.add((long) singer(row, place, what));
                }
            }
            values.add((long) bestSwap(row));
            text(row).chars().forEach(code -> values.add((long) code));
        }
        values.add((long) bestRow(160));
        for (int far = 1; far <= 6; far++) {
            values.add((long) ifReach(far));
        }
        values.add(Double.doubleToLongBits(oddShare()));
        values.add((long) buffer.length());
        buffer.chars().forEach(code -> values.add((long) code));
        long hash = 3637L;
        for (long value : values) {
            hash = 31 * hash + value;
        }
        return hash;
    }
}
