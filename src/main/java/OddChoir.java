/**
 * Rows of singers who hear those to their left and those of the row behind. All that calls need is made with the
 * object, so that a run of many calls takes no more room than the first one.
 */
public final class OddChoir {
    public static final int NONE = -1;

    private static final int ROWS = 4;
    private static final int ROOM = 6;
    private static final int SPOTS = ROWS * ROOM;
    private static final int MOST_COMERS = 999;
    private static final int LOWEST = 100;
    private static final int HIGHEST = 220;
    private static final int VOICES = 4;
    private static final String VOICE_LETTERS = "btas";
    private static final int TEXT_ROOM = 60;
    private static final int UNDO_ROOM = 6;
    private static final int TREE_ROOM = 2 * ROOM;
    // three digits, a letter and the space behind them
    private static final int WRITTEN_WIDTH = 5;
    private static final long HASH_START = 3637L;
    private static final int HASH_HEIGHT = 160;

    private final Choir now;
    // what would be is tried out here, so that nothing of the state itself is touched
    private final Choir trial;
    private final Choir snapshot;
    private boolean hasSnapshot;
    private final History history;
    private final ChantText text;
    private final HeightTree tree;
    private final OrderSearch orders;

    public OddChoir() {
        now = new Choir();
        trial = new Choir();
        snapshot = new Choir();
        hasSnapshot = false;
        history = new History();
        text = new ChantText();
        tree = new HeightTree();
        orders = new OrderSearch();
    }

    // ---- singers

    public int join(int row, int height, int voice)
            throws IndexOutOfBoundsException, IllegalArgumentException, IllegalStateException {
        needRow(row);
        needHeight(height);
        needArgument(isBetween(voice, 0, VOICES - 1));
        needState(now.hasRoomFor(row));
        history.save(now);
        return now.arrive(row, height, voice);
    }

    public int leave(int row, int place) throws IndexOutOfBoundsException {
        needSinger(row, place);
        history.save(now);
        return now.dismiss(row, place);
    }

    public int grow(int row, int place, int height) throws IndexOutOfBoundsException, IllegalArgumentException {
        needSinger(row, place);
        needHeight(height);
        history.save(now);
        int before = now.heightAt(row, place);
        now.changeHeight(row, place, height);
        return before;
    }

    public int swap(int row, int place, int otherRow, int otherPlace) throws IndexOutOfBoundsException {
        needSinger(row, place);
        needSinger(otherRow, otherPlace);
        history.save(now);
        now.swapAndCount(row, place, otherRow, otherPlace);
        return now.oddOfAll();
    }

    public int cross(int row, int place, int to) throws IndexOutOfBoundsException, IllegalStateException {
        needSinger(row, place);
        needRow(to);
        needState(row != to && now.sizeOf(to) < ROOM);
        history.save(now);
        return now.moveOver(row, place, to);
    }

    // ---- rows

    public int turn(int row) throws IndexOutOfBoundsException {
        needRow(row);
        history.save(now);
        now.turnRound(row);
        return now.oddOfAll();
    }

    public int sort(int row, int how) throws IndexOutOfBoundsException, IllegalArgumentException {
        needRow(row);
        needArgument(isBetween(how, 0, 2));
        history.save(now);
        now.putInOrder(row, how);
        return now.discordOf(row);
    }

    public int set(int setting, int value) throws IndexOutOfBoundsException, IllegalArgumentException {
        needIndex(isBetween(setting, 0, 1));
        needArgument(setting == 0 ? isBetween(value, 1, ROOM) : isBetween(value, 0, 1));
        history.save(now);
        int before = now.settingAt(setting);
        now.changeSetting(setting, value);
        return before;
    }

    // ---- texts

    public int append(int code) throws IllegalArgumentException, IllegalStateException {
        needArgument(isBetween(code, 33, 126));
        needState(text.size() < TEXT_ROOM);
        text.add((char) code);
        return text.size();
    }

    public int clearBuffer() {
        int before = text.size();
        text.empty();
        return before;
    }

    public int firstError() {
        return text.firstMisfit();
    }

    public int chant() throws IllegalArgumentException {
        needArgument(text.isWhole());
        history.save(now);
        int done = 0;
        int start = 0;
        while (done < TEXT_ROOM && start < text.size() && doPart(start)) {
            done++;
            start = text.endOfPart(start) + 1;
        }
        text.empty();
        return done;
    }

    public int written(int row, int index) throws IndexOutOfBoundsException, IllegalArgumentException {
        needRow(row);
        needArgument(index >= 0);
        return now.writtenCode(row, index);
    }

    // ---- undo, the snapshot

    public int undo() throws IllegalStateException {
        needState(history.size() > 0);
        history.takeBack(now);
        return history.size();
    }

    public int keep() {
        snapshot.become(now);
        hasSnapshot = true;
        return now.sizeOfAll();
    }

    public int restore() throws IllegalStateException {
        needState(hasSnapshot);
        history.save(now);
        now.become(snapshot);
        return now.sizeOfAll();
    }

    // ---- looks; nothing is changed

    public int singer(int row, int place, int what) throws IndexOutOfBoundsException, IllegalArgumentException {
        needSinger(row, place);
        needArgument(isBetween(what, 0, 7));
        return ofSinger(row, place, what);
    }

    public int row(int row, int what) throws IndexOutOfBoundsException, IllegalArgumentException {
        needRow(row);
        needArgument(isBetween(what, 0, 6));
        return ofRow(row, what);
    }

    public int find(int number) throws IllegalArgumentException {
        needArgument(number >= 0);
        return now.spotOfNumber(number);
    }

    public int count(int what) throws IllegalArgumentException {
        needArgument(isBetween(what, 0, 8));
        return ofAll(what);
    }

    // ---- what would be; nothing is changed

    public int ifSwapped(int row, int place, int otherRow, int otherPlace) throws IndexOutOfBoundsException {
        needSinger(row, place);
        needSinger(otherRow, otherPlace);
        trial.become(now);
        trial.swapPlaces(row, place, otherRow, otherPlace);
        return trial.oddOfAll();
    }

    public int bestSwap(int row) throws IndexOutOfBoundsException {
        needRow(row);
        return bestPair(row);
    }

    public int bestRow(int height) throws IllegalArgumentException {
        needHeight(height);
        return bestRowFor(height);
    }

    public int ifReach(int reach) throws IllegalArgumentException {
        needArgument(isBetween(reach, 1, ROOM));
        return oddWithReach(reach);
    }

    public double oddShare() {
        int all = now.sizeOfAll();
        return all > 0 ? (double) now.oddOfAll() / (double) all : 1.0;
    }

    public long digest() {
        long hash = HASH_START;
        for (int what = 0; what <= 8; what++) {
            hash = mix(hash, ofAll(what));
        }
        for (int row = 0; row < ROWS; row++) {
            for (int what = 0; what <= 6; what++) {
                hash = mix(hash, ofRow(row, what));
            }
            hash = mixSingers(hash, row);
            hash = mix(hash, bestPair(row));
            hash = mixWritten(hash, row);
        }
        hash = mix(hash, bestRowFor(HASH_HEIGHT));
        for (int reach = 1; reach <= ROOM; reach++) {
            hash = mix(hash, oddWithReach(reach));
        }
        hash = mix(hash, bitsOfShare(oddShare()));
        return mixText(hash);
    }

    private static void needIndex(boolean holds) {
        if (!holds) {
            throw new IndexOutOfBoundsException();
        }
    }

    private static void needArgument(boolean holds) {
        if (!holds) {
            throw new IllegalArgumentException();
        }
    }

    private static void needState(boolean holds) {
        if (!holds) {
            throw new IllegalStateException();
        }
    }

    private static void needRow(int row) {
        needIndex(isBetween(row, 0, ROWS - 1));
    }

    private void needSinger(int row, int place) {
        needIndex(now.isTaken(row, place));
    }

    private static void needHeight(int height) {
        needArgument(isBetween(height, LOWEST, HIGHEST));
    }

    private static boolean isBetween(int value, int least, int greatest) {
        return value >= least && value <= greatest;
    }

    private static int readCell(int[] cells, int spot) {
        return spot >= 0 && spot < cells.length ? cells[spot] : NONE;
    }

    private static void writeCell(int[] cells, int spot, int value) {
        if (spot >= 0 && spot < cells.length) {
            cells[spot] = value;
        }
    }

    /** Does the part of the text that begins at start; false if it is not possible. */
    private boolean doPart(int start) {
        int end = text.endOfPart(start);
        switch (text.codeAt(start)) {
            case 'j':
                return joinByText(start);
            case 's':
                return swapByText(start);
            case 't':
                now.turnRound(text.digitAt(end - 1));
                return true;
            case 'l':
                now.putInOrder(text.digitAt(end - 1), 0);
                return true;
            case 'h':
                now.putInOrder(text.digitAt(end - 1), 1);
                return true;
            case 'v':
                now.putInOrder(text.digitAt(end - 1), 2);
                return true;
            default:
                return false;
        }
    }

    private boolean joinByText(int start) {
        int row = text.digitAt(start + 5);
        int height = 100 * text.digitAt(start + 7) + 10 * text.digitAt(start + 8) + text.digitAt(start + 9);
        int voice = VOICE_LETTERS.indexOf(text.codeAt(start + 10));
        if (!now.hasRoomFor(row)) {
            return false;
        }
        now.arrive(row, height, voice);
        return true;
    }

    private boolean swapByText(int start) {
        int row = text.digitAt(start + 5);
        int place = text.digitAt(start + 7);
        int otherPlace = text.digitAt(start + 8);
        if (!now.isTaken(row, place) || !now.isTaken(row, otherPlace)) {
            return false;
        }
        now.swapAndCount(row, place, row, otherPlace);
        return true;
    }

    private int ofSinger(int row, int place, int what) {
        switch (what) {
            case 0:
                return now.numberAt(row, place);
            case 1:
                return now.heightAt(row, place);
            case 2:
                return now.voiceAt(row, place);
            case 3:
                return now.heardBy(row, place);
            case 4:
                return now.higherHeardBy(row, place);
            case 5:
                return now.higherByTree(tree, row, place);
            case 6:
                return now.higherHeardBy(row, place) & 1;
            default:
                return now.hearersOf(row, place);
        }
    }

    private int ofRow(int row, int what) {
        switch (what) {
            case 0:
                return now.sizeOf(row);
            case 1:
                return now.oddIn(row);
            case 2:
                return now.discordOf(row);
            case 3:
                return now.discordOf(row) & 1;
            case 4:
                orders.goThrough(now, row);
                return orders.most;
            case 5:
                orders.goThrough(now, row);
                return orders.way;
            default:
                return now.highestOf(row);
        }
    }

    private int ofAll(int what) {
        switch (what) {
            case 0:
                return now.sizeOfAll();
            case 1:
                return now.oddOfAll();
            case 2:
                return now.came;
            case 3:
                return now.left;
            case 4:
                return now.swaps;
            case 5:
                return now.discordOfAll();
            case 6:
                return now.settingAt(0);
            case 7:
                return now.settingAt(1);
            default:
                return history.size();
        }
    }

    private int bestPair(int row) {
        int best = NONE;
        int most = now.oddOfAll();
        int size = now.sizeOf(row);
        trial.become(now);
        for (int first = 0; first < size; first++) {
            for (int second = first + 1; second < size; second++) {
                trial.swapPlaces(row, first, row, second);
                int odd = trial.oddOfAll();
                trial.swapPlaces(row, first, row, second);
                if (odd > most) {
                    most = odd;
                    best = ROOM * first + second;
                }
            }
        }
        return best;
    }

    private int bestRowFor(int height) {
        int best = NONE;
        int most = -1;
        for (int row = 0; row < ROWS; row++) {
            if (now.sizeOf(row) < ROOM) {
                trial.become(now);
                trial.arrive(row, height, 0);
                int odd = trial.oddOfAll();
                if (odd > most) {
                    most = odd;
                    best = row;
                }
            }
        }
        return best;
    }

    private int oddWithReach(int reach) {
        trial.become(now);
        trial.changeSetting(0, reach);
        return trial.oddOfAll();
    }

    private static long mix(long hash, long value) {
        return 31L * hash + value;
    }

    private long mixSingers(long before, int row) {
        long hash = before;
        int size = now.sizeOf(row);
        for (int place = 0; place < size; place++) {
            for (int what = 0; what <= 7; what++) {
                hash = mix(hash, ofSinger(row, place, what));
            }
        }
        return hash;
    }

    private long mixWritten(long before, int row) {
        long hash = before;
        int length = now.writtenLength(row);
        for (int index = 0; index < length; index++) {
            hash = mix(hash, now.writtenCode(row, index));
        }
        return hash;
    }

    private long mixText(long before) {
        long hash = mix(before, text.size());
        for (int index = 0; index < text.size(); index++) {
            hash = mix(hash, text.codeAt(index));
        }
        return hash;
    }

    /** The bits of a double from 0.0 to 1.0, by arithmetic: the library has no function for it here. */
    private static long bitsOfShare(double share) {
        if (share <= 0.0) {
            return 0L;
        }
        double scaled = share;
        long exponent = 1023L;
        for (int step = 0; step < 64 && scaled < 1.0; step++) {
            scaled = scaled * 2.0;
            exponent--;
        }
        long fraction = (long) ((scaled - 1.0) * (double) (1L << 52));
        return (exponent << 52) + fraction;
    }

    /** All that undo brings back: the singers in their rows, the settings and what is counted so far. */
    private static final class Choir {
        private final int[] sizes = new int[ROWS];
        private final int[] numbers = new int[SPOTS];
        private final int[] heights = new int[SPOTS];
        private final int[] voices = new int[SPOTS];
        private int reach = ROOM;
        private int behind = 1;
        private int came;
        private int left;
        private int swaps;

        void become(Choir other) {
            if (other == null) {
                return;
            }
            copyCells(other.sizes, sizes);
            copyCells(other.numbers, numbers);
            copyCells(other.heights, heights);
            copyCells(other.voices, voices);
            reach = other.reach;
            behind = other.behind;
            came = other.came;
            left = other.left;
            swaps = other.swaps;
        }

        private static void copyCells(int[] from, int[] to) {
            System.arraycopy(from, 0, to, 0, Math.min(from.length, to.length));
        }

        int settingAt(int setting) {
            return setting == 0 ? reach : behind;
        }

        void changeSetting(int setting, int value) {
            if (setting == 0) {
                reach = value;
            } else {
                behind = value;
            }
        }

        /** Rows that there are not have nobody, so that the one behind the last needs no care. */
        int sizeOf(int row) {
            return row >= 0 && row < sizes.length ? sizes[row] : 0;
        }

        int sizeOfAll() {
            int all = 0;
            for (int row = 0; row < ROWS; row++) {
                all += sizeOf(row);
            }
            return all;
        }

        private void changeSize(int row, int by) {
            int size = sizeOf(row) + by;
            if (row >= 0 && row < sizes.length && size >= 0 && size <= ROOM) {
                sizes[row] = size;
            }
        }

        boolean isTaken(int row, int place) {
            return place >= 0 && place < sizeOf(row);
        }

        boolean hasRoomFor(int row) {
            return sizeOf(row) < ROOM && came < MOST_COMERS;
        }

        private static int spotAt(int row, int place) {
            return row >= 0 && row < ROWS && place >= 0 && place < ROOM ? ROOM * row + place : NONE;
        }

        int numberAt(int row, int place) {
            return readCell(numbers, spotAt(row, place));
        }

        int heightAt(int row, int place) {
            return readCell(heights, spotAt(row, place));
        }

        int voiceAt(int row, int place) {
            return readCell(voices, spotAt(row, place));
        }

        int spotOfNumber(int number) {
            for (int row = 0; row < ROWS; row++) {
                for (int place = 0; place < sizeOf(row); place++) {
                    if (numberAt(row, place) == number) {
                        return ROOM * row + place;
                    }
                }
            }
            return NONE;
        }

        int arrive(int row, int height, int voice) {
            int number = came;
            int place = sizeOf(row);
            came++;
            changeSize(row, 1);
            int spot = spotAt(row, place);
            writeCell(numbers, spot, number);
            writeCell(heights, spot, height);
            writeCell(voices, spot, voice);
            return number;
        }

        int dismiss(int row, int place) {
            int number = numberAt(row, place);
            moveToRightEnd(row, place);
            changeSize(row, -1);
            left++;
            return number;
        }

        int moveOver(int row, int place, int to) {
            moveToRightEnd(row, place);
            int end = sizeOf(to);
            changeSize(to, 1);
            swapPlaces(row, sizeOf(row) - 1, to, end);
            changeSize(row, -1);
            return end;
        }

        private void moveToRightEnd(int row, int place) {
            for (int at = place; at < sizeOf(row) - 1; at++) {
                swapPlaces(row, at, row, at + 1);
            }
        }

        void changeHeight(int row, int place, int height) {
            writeCell(heights, spotAt(row, place), height);
        }

        void swapPlaces(int row, int place, int otherRow, int otherPlace) {
            int spot = spotAt(row, place);
            int other = spotAt(otherRow, otherPlace);
            swapCells(numbers, spot, other);
            swapCells(heights, spot, other);
            swapCells(voices, spot, other);
        }

        private static void swapCells(int[] cells, int spot, int other) {
            int carried = readCell(cells, spot);
            writeCell(cells, spot, readCell(cells, other));
            writeCell(cells, other, carried);
        }

        void swapAndCount(int row, int place, int otherRow, int otherPlace) {
            swapPlaces(row, place, otherRow, otherPlace);
            swaps++;
        }

        void turnRound(int row) {
            int last = sizeOf(row) - 1;
            for (int place = 0; place < last - place; place++) {
                swapPlaces(row, place, row, last - place);
            }
        }

        /** By swaps of neighbours that are out of order only, so that those alike stay in their order. */
        void putInOrder(int row, int how) {
            for (int next = 1; next < sizeOf(row); next++) {
                for (int at = next; at > 0 && rankAt(row, at, how) < rankAt(row, at - 1, how); at--) {
                    swapPlaces(row, at - 1, row, at);
                }
            }
        }

        private int rankAt(int row, int place, int how) {
            switch (how) {
                case 0:
                    return heightAt(row, place);
                case 1:
                    return -heightAt(row, place);
                default:
                    return voiceAt(row, place);
            }
        }

        int highestOf(int row) {
            int highest = NONE;
            for (int place = 0; place < sizeOf(row); place++) {
                highest = Math.max(highest, heightAt(row, place));
            }
            return highest;
        }

        int discordOf(int row) {
            int pairs = 0;
            for (int place = 0; place < sizeOf(row); place++) {
                pairs += higherBetween(row, 0, place - 1, heightAt(row, place));
            }
            return pairs;
        }

        int discordOfAll() {
            int pairs = 0;
            for (int row = 0; row < ROWS; row++) {
                pairs += discordOf(row);
            }
            return pairs;
        }

        private int rowBehind(int row) {
            return behind == 1 ? row + 1 : NONE;
        }

        private int rowBefore(int row) {
            return behind == 1 ? row - 1 : NONE;
        }

        int heardBy(int row, int place) {
            return singersBetween(row, place - reach, place - 1)
                    + singersBetween(rowBehind(row), place - reach, place);
        }

        int hearersOf(int row, int place) {
            return singersBetween(row, place + 1, place + reach)
                    + singersBetween(rowBefore(row), place, place + reach);
        }

        int higherHeardBy(int row, int place) {
            int height = heightAt(row, place);
            return higherBetween(row, place - reach, place - 1, height)
                    + higherBetween(rowBehind(row), place - reach, place, height);
        }

        /** How many higher ones somebody of this height would hear of the row behind. */
        int higherBehind(int row, int place, int height) {
            return higherBetween(rowBehind(row), place - reach, place, height);
        }

        int higherByTree(HeightTree tree, int row, int place) {
            tree.fell();
            putBetween(tree, row, place - reach, place - 1);
            putBetween(tree, rowBehind(row), place - reach, place);
            return tree.higherThan(heightAt(row, place));
        }

        private int singersBetween(int row, int from, int to) {
            return Math.max(0, Math.min(to, sizeOf(row) - 1) - Math.max(from, 0) + 1);
        }

        private int higherBetween(int row, int from, int to, int height) {
            int higher = 0;
            int last = Math.min(to, sizeOf(row) - 1);
            for (int place = Math.max(from, 0); place <= last; place++) {
                if (readCell(heights, ROOM * row + place) > height) {
                    higher++;
                }
            }
            return higher;
        }

        private void putBetween(HeightTree tree, int row, int from, int to) {
            int last = Math.min(to, sizeOf(row) - 1);
            for (int place = Math.max(from, 0); place <= last; place++) {
                tree.put(heightAt(row, place));
            }
        }

        int oddIn(int row) {
            int odd = 0;
            for (int place = 0; place < sizeOf(row); place++) {
                odd += higherHeardBy(row, place) & 1;
            }
            return odd;
        }

        int oddOfAll() {
            int odd = 0;
            for (int row = 0; row < ROWS; row++) {
                odd += oddIn(row);
            }
            return odd;
        }

        int writtenLength(int row) {
            return Math.max(0, WRITTEN_WIDTH * sizeOf(row) - 1);
        }

        int writtenCode(int row, int index) {
            if (index < 0 || index >= writtenLength(row)) {
                return NONE;
            }
            int place = index / WRITTEN_WIDTH;
            int height = heightAt(row, place);
            switch (index % WRITTEN_WIDTH) {
                case 0:
                    return '0' + height / 100;
                case 1:
                    return '0' + height / 10 % 10;
                case 2:
                    return '0' + height % 10;
                case 3:
                    return letterOf(voiceAt(row, place));
                default:
                    return ' ';
            }
        }

        private static int letterOf(int voice) {
            return voice >= 0 && voice < VOICE_LETTERS.length() ? VOICE_LETTERS.charAt(voice) : NONE;
        }
    }

    private static final class Node {
        private int height;
        private int comers;
        private Node lesser;
        private Node greater;
    }

    /** The second way to count. Its nodes are made once and used again. */
    private static final class HeightTree {
        private final Node[] nodes = new Node[TREE_ROOM];
        private Node top;
        private int used;

        HeightTree() {
            for (int index = 0; index < nodes.length; index++) {
                nodes[index] = new Node();
            }
        }

        void fell() {
            top = null;
            used = 0;
        }

        void put(int height) {
            Node above = null;
            Node at = top;
            for (int level = 0; level < TREE_ROOM && at != null; level++) {
                if (at.height == height) {
                    at.comers++;
                    return;
                }
                above = at;
                at = height > at.height ? at.greater : at.lesser;
            }
            Node fresh = freshNode(height);
            if (above == null) {
                top = fresh;
            } else if (height > above.height) {
                above.greater = fresh;
            } else {
                above.lesser = fresh;
            }
        }

        private Node freshNode(int height) {
            Node fresh = used >= 0 && used < nodes.length ? nodes[used] : null;
            if (fresh != null) {
                used++;
                fresh.height = height;
                fresh.comers = 1;
                fresh.lesser = null;
                fresh.greater = null;
            }
            return fresh;
        }

        int higherThan(int height) {
            int higher = 0;
            Node at = top;
            for (int level = 0; level < TREE_ROOM && at != null; level++) {
                if (at.height > height) {
                    higher += at.comers + allBelow(at.greater, 1);
                    at = at.lesser;
                } else {
                    at = at.greater;
                }
            }
            return higher;
        }

        private static int allBelow(Node node, int depth) {
            if (node == null || depth > TREE_ROOM) {
                return 0;
            }
            return node.comers + allBelow(node.lesser, depth + 1) + allBelow(node.greater, depth + 1);
        }
    }

    /**
     * Goes through the orders of a row. Sets of its singers are bits of an int, by the places they have now, so
     * that a step costs no walk along the row.
     */
    private static final class OrderSearch {
        private final int[] higherOnes = new int[ROOM];
        private final int[] oddBehind = new int[ROOM];
        private final int[] chosen = new int[ROOM];
        private int size;
        private int reach;
        private int most;
        private int way;

        void goThrough(Choir choir, int row) {
            size = Math.min(choir.sizeOf(row), ROOM);
            reach = choir.settingAt(0);
            for (int who = 0; who < size; who++) {
                noteSinger(choir, row, who);
            }
            most = -1;
            way = 0;
            choose(0, 0, 0, 0);
        }

        private void noteSinger(Choir choir, int row, int who) {
            int height = choir.heightAt(row, who);
            int higher = 0;
            int odd = 0;
            for (int place = 0; place < size; place++) {
                if (choir.heightAt(row, place) > height) {
                    higher |= 1 << place;
                }
                odd |= (choir.higherBehind(row, place, height) & 1) << place;
            }
            writeCell(higherOnes, who, higher);
            writeCell(oddBehind, who, odd);
        }

        /** Chooses who stands at this place and all to the right, and notes the best order. */
        private void choose(int place, int used, int odd, int swaps) {
            if (cannotBeBetter(odd + size - place, swaps)) {
                return;
            }
            if (place >= size) {
                most = odd;
                way = swaps;
                return;
            }
            int heard = heardAt(place, used);
            for (int who = 0; who < size; who++) {
                int bit = 1 << who;
                if ((used & bit) == 0) {
                    writeCell(chosen, place, bit);
                    // this one passes all who stand to the right now and to the left then
                    int passed = Integer.bitCount(used >> who);
                    choose(place + 1, used | bit, odd + parityOf(who, place, heard), swaps + passed);
                }
            }
        }

        private boolean cannotBeBetter(int oddAtMost, int swaps) {
            return oddAtMost < most || oddAtMost == most && swaps >= way;
        }

        private int heardAt(int place, int used) {
            int heard = used;
            for (int tooFar = 0; tooFar < place - reach; tooFar++) {
                heard &= ~readCell(chosen, tooFar);
            }
            return heard;
        }

        private int parityOf(int who, int place, int heard) {
            int higher = Integer.bitCount(readCell(higherOnes, who) & heard);
            return (higher + (readCell(oddBehind, who) >> place)) & 1;
        }
    }

    /** The buffer, and what it means as chants. */
    private static final class ChantText {
        private final char[] codes = new char[TEXT_ROOM];
        private int length;

        int size() {
            return length;
        }

        void add(char code) {
            if (length >= 0 && length < codes.length) {
                codes[length] = code;
                length++;
            }
        }

        void empty() {
            length = 0;
        }

        char codeAt(int index) {
            return index >= 0 && index < length && index < codes.length ? codes[index] : 0;
        }

        int digitAt(int index) {
            return codeAt(index) - '0';
        }

        /**
         * The form of the part that begins at start, told by its first letter: R a row, P a place, A, B and C the
         * digits of a height, V a voice; every other sign stands for itself. Empty if no part begins so.
         */
        private String formAt(int start) {
            switch (codeAt(start)) {
                case 'j':
                    return "join:R,ABCV";
                case 's':
                    return "swap:R,PP";
                case 't':
                    return "turn:R";
                case 'l':
                    return "low:R";
                case 'h':
                    return "high:R";
                case 'v':
                    return "voice:R";
                default:
                    return "";
            }
        }

        int endOfPart(int start) {
            return start + formAt(start).length();
        }

        int firstMisfit() {
            int start = 0;
            for (int index = 0; index < length; index++) {
                if (index > start && index == endOfPart(start)) {
                    if (codeAt(index) != ';') {
                        return index;
                    }
                    start = index + 1;
                } else if (!fits(formAt(start), index - start, index)) {
                    return index;
                }
            }
            return length;
        }

        boolean isWhole() {
            if (firstMisfit() < length) {
                return false;
            }
            int start = 0;
            for (int part = 0; part < TEXT_ROOM && start < length; part++) {
                int end = endOfPart(start);
                if (end == length) {
                    return true;
                }
                start = end + 1;
            }
            return false;
        }

        private boolean fits(String form, int at, int index) {
            if (at < 0 || at >= form.length()) {
                return false;
            }
            char wanted = form.charAt(at);
            char code = codeAt(index);
            switch (wanted) {
                case 'R':
                    return isBetween(code, '0', '3');
                case 'P':
                    return isBetween(code, '0', '5');
                case 'A':
                    return isBetween(code, '1', '2');
                case 'B':
                    return isBetween(code, '0', codeAt(index - 1) == '2' ? '2' : '9');
                case 'C':
                    return isBetween(code, '0', isTopHeight(index) ? '0' : '9');
                case 'V':
                    return VOICE_LETTERS.indexOf(code) >= 0;
                default:
                    return code == wanted;
            }
        }

        /** Whether the two digits before are those of 220, the only height that begins so. */
        private boolean isTopHeight(int index) {
            return codeAt(index - 2) == '2' && codeAt(index - 1) == '2';
        }
    }

    /** The saved states, the oldest of which gives its place to the next one if all are taken. */
    private static final class History {
        private final Choir[] saved = new Choir[UNDO_ROOM];
        private int oldest;
        private int held;

        History() {
            for (int index = 0; index < saved.length; index++) {
                saved[index] = new Choir();
            }
        }

        int size() {
            return held;
        }

        void save(Choir state) {
            if (held >= UNDO_ROOM) {
                oldest = (oldest + 1) % UNDO_ROOM;
                held--;
            }
            Choir slot = slotAt(held);
            if (slot != null) {
                slot.become(state);
                held++;
            }
        }

        void takeBack(Choir state) {
            if (held > 0) {
                held--;
                state.become(slotAt(held));
            }
        }

        private Choir slotAt(int age) {
            int index = Math.floorMod(oldest + age, UNDO_ROOM);
            return index >= 0 && index < saved.length ? saved[index] : null;
        }
    }
}
