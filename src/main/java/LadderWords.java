/** Games with words: ladders, gatherings of letters, word squares and letter grids. */
public final class LadderWords {
    private static final int NONE = -1;
    private static final int FIRST_LETTER = 97;
    private static final int LAST_LETTER = 122;
    private static final int ALPHABET = 26;
    private static final int LONGEST_ROW = 12;
    private static final int LONGEST_WORD = 6;
    private static final int MOST_WORDS = 60;

    private final Row row;
    private final Words words;
    private final Ladders ladders;
    private final Gatherings gatherings;
    private final Squares squares;
    private final Grid grid;

    public LadderWords() {
        row = new Row();
        words = new Words();
        ladders = new Ladders(words);
        gatherings = new Gatherings(words);
        squares = new Squares(words);
        grid = new Grid(words);
    }

    public boolean unit(int u) {
        return row.add(u);
    }

    public int word() {
        int number = words.numberFor(row);
        row.clear();
        return number;
    }

    public int letter(int word, int i) {
        return words.letterOf(word, i);
    }

    public int ladder(int from, int to, int kind) {
        return ladders.find(from, to, kind);
    }

    public int step(int k) {
        return ladders.rungAt(k);
    }

    public long ways() {
        return ladders.shortestCount();
    }

    public int gather(int most) {
        return gatherings.find(row, most);
    }

    public int gathered(int k, int i) {
        return gatherings.wordAt(k, i);
    }

    public boolean square(int n) {
        return squares.find(n);
    }

    public int line(int i) {
        return squares.wordAt(i);
    }

    public boolean hide(int word, int x, int y, int direction) {
        return grid.put(word, x, y, direction);
    }

    public int fill(long seed) {
        return grid.fillEmpty(seed);
    }

    public int cell(int x, int y) {
        return grid.letterAt(x, y);
    }

    public int found(int word) {
        return grid.countOf(word);
    }

    public int where(int word, int k) {
        return grid.placeOf(word, k);
    }

    public void wipe() {
        grid.clear();
    }

    /** The letters that have come and are no word yet. */
    private static final class Row {
        private final int[] letters = new int[LONGEST_ROW];
        private int length;

        boolean add(int u) {
            if (u < FIRST_LETTER || u > LAST_LETTER || length >= letters.length) {
                return false;
            }
            letters[length] = u;
            length++;
            return true;
        }

        void clear() {
            length = 0;
        }

        int length() {
            return length;
        }

        int letterAt(int i) {
            return i >= 0 && i < length ? letters[i] : NONE;
        }

        int firstPlaceOf(int u) {
            for (int i = 0; i < length; i++) {
                if (letters[i] == u) {
                    return i;
                }
            }
            return NONE;
        }
    }

    /** All words; their letters lie one behind the other, as the filling of the grid counts them. */
    private static final class Words {
        private final int[] letters = new int[MOST_WORDS * LONGEST_WORD];
        private final int[] starts = new int[MOST_WORDS + 1];
        private int count;

        int count() {
            return count;
        }

        boolean has(int word) {
            return word >= 0 && word < count;
        }

        int lengthOf(int word) {
            return word >= 0 && word < count ? starts[word + 1] - starts[word] : 0;
        }

        int letterOf(int word, int i) {
            if (word < 0 || word >= count || i < 0 || i >= starts[word + 1] - starts[word]) {
                return NONE;
            }
            return letters[starts[word] + i];
        }

        int lengthOfAll() {
            return starts[count];
        }

        int letterOfAll(int place) {
            return place >= 0 && place < lengthOfAll() ? letters[place] : NONE;
        }

        int numberFor(Row row) {
            if (row.length() == 0 || row.length() > LONGEST_WORD) {
                return NONE;
            }
            int known = knownNumberOf(row);
            if (known != NONE || count >= MOST_WORDS) {
                return known;
            }
            append(row);
            return count - 1;
        }

        private int knownNumberOf(Row row) {
            for (int word = 0; word < count; word++) {
                if (isSame(word, row)) {
                    return word;
                }
            }
            return NONE;
        }

        private boolean isSame(int word, Row row) {
            if (lengthOf(word) != row.length()) {
                return false;
            }
            for (int i = 0; i < row.length(); i++) {
                if (letterOf(word, i) != row.letterAt(i)) {
                    return false;
                }
            }
            return true;
        }

        private void append(Row row) {
            int start = starts[count];
            for (int i = 0; i < row.length(); i++) {
                letters[start + i] = row.letterAt(i);
            }
            count++;
            starts[count] = start + row.length();
        }

        boolean isStep(int from, int to, int kind) {
            int more = lengthOf(to) - lengthOf(from);
            if (more == 0) {
                return differences(from, to) == 1;
            }
            if (kind == Ladders.SAME_LENGTH) {
                return false;
            }
            return more == 1 && isOneMore(from, to) || more == -1 && isOneMore(to, from);
        }

        private int differences(int one, int other) {
            int different = 0;
            for (int i = 0; i < lengthOf(one); i++) {
                if (letterOf(one, i) != letterOf(other, i)) {
                    different++;
                }
            }
            return different;
        }

        /** The longer word is known to have one letter more: skipping it where they part is enough. */
        private boolean isOneMore(int shorter, int longer) {
            int skipped = 0;
            for (int i = 0; i < lengthOf(shorter); i++) {
                if (letterOf(shorter, i) != letterOf(longer, i)) {
                    skipped = 1;
                }
                if (letterOf(shorter, i) != letterOf(longer, i + skipped)) {
                    return false;
                }
            }
            return true;
        }
    }

    /** The ladder found latest, measured from its end so that the least one can be climbed greedily. */
    private static final class Ladders {
        private static final int SAME_LENGTH = 0;
        private static final int ANY_LENGTH = 1;
        private static final int FAR = -1;

        private final Words words;
        private final int[] distances = new int[MOST_WORDS];
        private final long[] counts = new long[MOST_WORDS];
        private final int[] rungs = new int[MOST_WORDS];
        private int rungCount;
        private long shortest;
        private int wordsThen;

        Ladders(Words words) {
            this.words = words;
        }

        int find(int from, int to, int kind) {
            rungCount = 0;
            shortest = 0;
            if (!words.has(from) || !words.has(to) || kind != SAME_LENGTH && kind != ANY_LENGTH) {
                return NONE;
            }
            measure(from, to, kind);
            if (distances[from] == FAR) {
                return NONE;
            }
            climb(from, kind);
            shortest = counts[from];
            wordsThen = words.count();
            return distances[from];
        }

        int rungAt(int k) {
            boolean stands = k >= 0 && k < rungCount && wordsThen == words.count();
            return stands ? rungs[k] : NONE;
        }

        long shortestCount() {
            return shortest;
        }

        private void measure(int from, int to, int kind) {
            for (int word = 0; word < words.count(); word++) {
                distances[word] = FAR;
                counts[word] = 0;
            }
            distances[to] = 0;
            counts[to] = 1;
            for (int distance = 0; distance < words.count() && distances[from] == FAR; distance++) {
                for (int word = 0; word < words.count(); word++) {
                    if (distances[word] == distance) {
                        spread(word, kind);
                    }
                }
            }
        }

        private void spread(int word, int kind) {
            int further = distances[word] + 1;
            for (int next = 0; next < words.count(); next++) {
                boolean open = distances[next] == FAR || distances[next] == further;
                if (open && words.isStep(next, word, kind)) {
                    distances[next] = further;
                    counts[next] += counts[word];
                }
            }
        }

        private void climb(int from, int kind) {
            rungs[0] = from;
            rungCount = 1;
            for (int left = distances[from] - 1; left >= 0 && rungCount < rungs.length; left--) {
                rungs[rungCount] = leastNext(rungs[rungCount - 1], left, kind);
                rungCount++;
            }
        }

        private int leastNext(int word, int distance, int kind) {
            for (int next = 0; next < words.count(); next++) {
                if (distances[next] == distance && words.isStep(word, next, kind)) {
                    return next;
                }
            }
            return NONE;
        }
    }

    /**
     * The gatherings found latest. A heap of letters is one long: each letter of the row has five
     * bits at its first place there, four that count (to 12) and a guard bit above them, so that
     * one subtraction tells whether a word's letters are all in what is left.
     */
    private static final class Gatherings {
        private static final int MOST_TOGETHER = 4;
        private static final int MOST_KEPT = 200;
        private static final int BITS = 5;
        private static final long GUARDS = 0x842108421084210L;

        private final Words words;
        private final int[] fitting = new int[MOST_WORDS];
        private final long[] heaps = new long[MOST_WORDS];
        private int fittingCount;
        private final int[] chosen = new int[MOST_TOGETHER];
        private final int[] kept = new int[MOST_KEPT * MOST_TOGETHER];
        private int keptCount;
        private int total;
        private int wordsThen;

        Gatherings(Words words) {
            this.words = words;
        }

        int find(Row row, int most) {
            if (most < 1 || most > MOST_TOGETHER) {
                return NONE;
            }
            keptCount = 0;
            total = 0;
            wordsThen = words.count();
            long all = heapOfRow(row);
            listFitting(row, all);
            choose(0, most, 0, all);
            return total;
        }

        int wordAt(int k, int i) {
            boolean stands = k >= 0 && k < keptCount && i >= 0 && i < MOST_TOGETHER
                && wordsThen == words.count();
            return stands ? kept[k * MOST_TOGETHER + i] : NONE;
        }

        private static long heapOfRow(Row row) {
            long heap = 0;
            for (int i = 0; i < row.length(); i++) {
                heap += oneAt(row.firstPlaceOf(row.letterAt(i)));
            }
            return heap;
        }

        private static long oneAt(int place) {
            return 1L << (BITS * place);
        }

        private static boolean isWithin(long heap, long all) {
            return (((all | GUARDS) - heap) & GUARDS) == GUARDS;
        }

        private void listFitting(Row row, long all) {
            fittingCount = 0;
            for (int word = 0; word < words.count(); word++) {
                long heap = heapOfWord(word, row);
                if (heap != NONE && isWithin(heap, all)) {
                    fitting[fittingCount] = word;
                    heaps[fittingCount] = heap;
                    fittingCount++;
                }
            }
        }

        private long heapOfWord(int word, Row row) {
            long heap = 0;
            for (int i = 0; i < words.lengthOf(word); i++) {
                int place = row.firstPlaceOf(words.letterOf(word, i));
                if (place == NONE) {
                    return NONE;
                }
                heap += oneAt(place);
            }
            return heap;
        }

        /** Rising numbers at every depth bring the gatherings in the order in which they are kept. */
        private void choose(int depth, int most, int first, long left) {
            if (depth >= most || depth >= MOST_TOGETHER) {
                return;
            }
            for (int f = first; f < fittingCount; f++) {
                if (isWithin(heaps[f], left)) {
                    take(depth, most, f, left - heaps[f]);
                }
            }
        }

        private void take(int depth, int most, int f, long left) {
            chosen[depth] = fitting[f];
            if (left == 0) {
                keep(depth + 1);
            } else {
                choose(depth + 1, most, f, left);
            }
        }

        private void keep(int size) {
            total++;
            if (keptCount >= MOST_KEPT) {
                return;
            }
            for (int i = 0; i < MOST_TOGETHER; i++) {
                kept[keptCount * MOST_TOGETHER + i] = i < size ? chosen[i] : NONE;
            }
            keptCount++;
        }
    }

    /** The square found latest. A set of words is one long, with a bit for each of the 60. */
    private static final class Squares {
        private static final int LEAST = 2;
        private static final int LARGEST = 5;

        private final Words words;
        private final long[][] having = new long[LARGEST][ALPHABET];
        private final long[][] open = new long[LARGEST][LARGEST];
        private final int[] lines = new int[LARGEST];
        private int size;
        private int wordsThen;

        Squares(Words words) {
            this.words = words;
        }

        boolean find(int n) {
            size = 0;
            if (n < LEAST || n > LARGEST) {
                return false;
            }
            openAll(n);
            if (!complete(0, n)) {
                return false;
            }
            size = n;
            wordsThen = words.count();
            return true;
        }

        int wordAt(int i) {
            boolean stands = i >= 0 && i < size && wordsThen == words.count();
            return stands ? lines[i] : NONE;
        }

        private void openAll(int n) {
            long all = 0;
            for (int word = 0; word < words.count(); word++) {
                if (words.lengthOf(word) == n) {
                    all |= 1L << word;
                    noteLetters(word, n);
                }
            }
            for (int line = 0; line < n; line++) {
                open[0][line] = all;
            }
        }

        /** No word ever goes, so what was noted for an earlier square stays true. */
        private void noteLetters(int word, int n) {
            for (int i = 0; i < n; i++) {
                int letter = words.letterOf(word, i) - FIRST_LETTER;
                if (letter >= 0 && letter < ALPHABET) {
                    having[i][letter] |= 1L << word;
                }
            }
        }

        private boolean complete(int depth, int n) {
            if (depth >= n || depth >= LARGEST) {
                return true;
            }
            for (int word = 0; word < words.count(); word++) {
                boolean may = (open[depth][depth] >>> word & 1L) != 0;
                if (may && completeWith(word, depth, n)) {
                    return true;
                }
            }
            return false;
        }

        private boolean completeWith(int word, int depth, int n) {
            lines[depth] = word;
            for (int line = depth + 1; line < n; line++) {
                long left = open[depth][line] & wordsWith(depth, words.letterOf(word, line));
                if (left == 0) {
                    return false;
                }
                open[depth + 1][line] = left;
            }
            return complete(depth + 1, n);
        }

        private long wordsWith(int i, int u) {
            int letter = u - FIRST_LETTER;
            return letter >= 0 && letter < ALPHABET ? having[i][letter] : 0;
        }
    }

    /** The cells, row by row. A PLACE is 8 times a cell's number and a direction. */
    private static final class Grid {
        private static final int SIDE = 8;
        private static final int DIRECTIONS = 8;
        private static final int PLACES = SIDE * SIDE * DIRECTIONS;
        private static final int EMPTY = 0;
        private static final int[] RIGHT = {1, 1, 0, -1, -1, -1, 0, 1};
        private static final int[] DOWN = {0, 1, 1, 1, 0, -1, -1, -1};
        private static final long FACTOR = 6364136223846793005L;
        private static final long SUMMAND = 1442695040888963407L;
        private static final int LOWER_BITS = 33;

        private final Words words;
        private final int[] cells = new int[SIDE * SIDE];

        Grid(Words words) {
            this.words = words;
        }

        void clear() {
            for (int c = 0; c < cells.length; c++) {
                cells[c] = EMPTY;
            }
        }

        int letterAt(int x, int y) {
            return isInside(x, y) ? cells[x + SIDE * y] : NONE;
        }

        boolean put(int word, int x, int y, int direction) {
            if (!words.has(word) || !isInside(x, y) || direction < 0 || direction >= DIRECTIONS) {
                return false;
            }
            if (!hasRoom(word, x, y, direction)) {
                return false;
            }
            for (int i = 0; i < words.lengthOf(word); i++) {
                set(x + i * RIGHT[direction], y + i * DOWN[direction], words.letterOf(word, i));
            }
            return true;
        }

        int fillEmpty(long seed) {
            int choice = words.lengthOfAll();
            if (choice <= 0) {
                return NONE;
            }
            long state = seed;
            int filled = 0;
            for (int c = 0; c < cells.length; c++) {
                if (cells[c] == EMPTY) {
                    state = FACTOR * state + SUMMAND;
                    cells[c] = words.letterOfAll((int) ((state >>> LOWER_BITS) % choice));
                    filled++;
                }
            }
            return filled;
        }

        int countOf(int word) {
            if (!words.has(word)) {
                return NONE;
            }
            int count = 0;
            for (int place = 0; place < PLACES; place++) {
                if (stands(word, place)) {
                    count++;
                }
            }
            return count;
        }

        int placeOf(int word, int k) {
            if (!words.has(word) || k < 0) {
                return NONE;
            }
            int before = 0;
            for (int place = 0; place < PLACES; place++) {
                if (stands(word, place)) {
                    if (before == k) {
                        return place;
                    }
                    before++;
                }
            }
            return NONE;
        }

        private static boolean isInside(int x, int y) {
            return x >= 0 && x < SIDE && y >= 0 && y < SIDE;
        }

        private void set(int x, int y, int letter) {
            if (isInside(x, y)) {
                cells[x + SIDE * y] = letter;
            }
        }

        private boolean hasRoom(int word, int x, int y, int direction) {
            for (int i = 0; i < words.lengthOf(word); i++) {
                int there = letterAt(x + i * RIGHT[direction], y + i * DOWN[direction]);
                if (there != EMPTY && there != words.letterOf(word, i)) {
                    return false;
                }
            }
            return true;
        }

        private boolean stands(int word, int place) {
            int direction = place % DIRECTIONS;
            int x = place / DIRECTIONS % SIDE;
            int y = place / DIRECTIONS / SIDE;
            for (int i = 0; i < words.lengthOf(word); i++) {
                int there = letterAt(x + i * RIGHT[direction], y + i * DOWN[direction]);
                if (there != words.letterOf(word, i)) {
                    return false;
                }
            }
            return true;
        }
    }
}
