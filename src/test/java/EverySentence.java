import java.util.function.Consumer;

/**
 * Every sentence of the document that says what a call does or answers, in the document's order and words,
 * with a test of the ordinary case as a whole; the boundary cases have tests of their own beside this one.
 */
public final class EverySentence {
    private static final String[] WORDS = {"cat", "cot", "dog", "cog", "dot", "at", "to", "ta", "a", "o", "t"};
    private static final int[] RIGHT = {1, 1, 0, -1, -1, -1, 0, 1};
    private static final int[] DOWN = {0, 1, 1, 1, 0, -1, -1, -1};
    private static String sentence = "";
    private static int tests = 0;
    private static int wrong = 0;

    private static void test(String words, Runnable body) {
        sentence = words;
        tests++;
        try {
            body.run();
        } catch (RuntimeException thrown) {
            wrong++;
            System.out.println("[" + sentence + "] the machine threw " + thrown);
        }
    }

    private static void due(String call, Object got, Object want) {
        if (!got.equals(want)) {
            wrong++;
            System.out.println("[" + sentence + "] " + call + " answered " + got + ", due is " + want);
        }
    }

    private static void type(LadderWords x, String letters) {
        for (int i = 0; i < letters.length(); i++) {
            due("unit " + i + " of " + letters, x.unit(letters.charAt(i)), true);
        }
    }

    private static int add(LadderWords x, String letters) {
        type(x, letters);
        return x.word();
    }

    private static LadderWords with(String... words) {
        LadderWords x = new LadderWords();
        for (int w = 0; w < words.length; w++) {
            due("word " + words[w], add(x, words[w]), w);
        }
        return x;
    }

    // What there is in an object, as text

    private static String textOf(LadderWords x, int word) {
        StringBuilder text = new StringBuilder();
        for (int i = 0; x.letter(word, i) != -1; i++) {
            text.append((char) x.letter(word, i));
        }
        return text.toString();
    }

    private static String wordsOf(LadderWords x) {
        StringBuilder text = new StringBuilder();
        for (int word = 0; x.letter(word, 0) != -1; word++) {
            text.append(textOf(x, word)).append(' ');
        }
        return text.toString().trim();
    }

    private static String ladderOf(LadderWords x) {
        StringBuilder text = new StringBuilder();
        for (int k = 0; x.step(k) != -1; k++) {
            text.append(x.step(k)).append(' ');
        }
        return text.toString().trim();
    }

    private static String gatheringOf(LadderWords x, int k) {
        StringBuilder text = new StringBuilder();
        for (int i = 0; x.gathered(k, i) != -1; i++) {
            text.append(i == 0 ? "" : " ").append(x.gathered(k, i));
        }
        return text.toString();
    }

    private static String gatheringsOf(LadderWords x) {
        StringBuilder text = new StringBuilder();
        for (int k = 0; x.gathered(k, 0) != -1; k++) {
            text.append(k == 0 ? "" : ", ").append(gatheringOf(x, k));
        }
        return text.toString();
    }

    private static String squareOf(LadderWords x) {
        StringBuilder text = new StringBuilder();
        for (int i = 0; x.line(i) != -1; i++) {
            text.append(x.line(i)).append(' ');
        }
        return text.toString().trim();
    }

    private static String gridOf(LadderWords x) {
        StringBuilder text = new StringBuilder();
        for (int c = 0; c < 64; c++) {
            int letter = x.cell(c % 8, c / 8);
            text.append(letter == 0 ? '.' : (char) letter);
        }
        return text.toString();
    }

    private static String placesOf(LadderWords x, int word) {
        StringBuilder text = new StringBuilder();
        for (int k = 0; x.where(word, k) != -1; k++) {
            text.append(x.where(word, k)).append(' ');
        }
        return text.toString().trim();
    }

    // Terms

    private static void row() {
        LadderWords x = new LadderWords();
        for (int u = 97; u <= 122; u++) {
            due("unit " + u, x.unit(u), true);
            due("word", x.word(), u - 97);
            due("letter of " + (u - 97), x.letter(u - 97, 0), u);
        }
        for (int i = 0; i < 14; i++) {
            due("unit " + i, x.unit('m'), i < 12);
        }
    }

    private static void wordsAsTheyCame() {
        LadderWords x = with("tea", "eat", "a", "eaten", "ate", "teas", "teaser");
        due("words", wordsOf(x), "tea eat a eaten ate teas teaser");
        due("eat again", add(x, "eat"), 1);
        due("ten", add(x, "ten"), 7);
        due("words", wordsOf(x), "tea eat a eaten ate teas teaser ten");
    }

    /** All pairs of these words, against steps written out by hand. */
    private static void steps() {
        String[] words = {"ab", "ac", "cb", "ba", "a", "abc", "aabc", "abca", "b"};
        String[] changed = {"ab ac", "ab cb", "a b"};
        String[] oneMore = {"a ab", "a ac", "a ba", "b ab", "b cb", "b ba", "ab abc", "ac abc", "abc aabc", "abc abca"};
        for (String from : words) {
            for (String to : words) {
                boolean kind0 = isAmong(changed, from, to);
                boolean kind1 = kind0 || isAmong(oneMore, from, to);
                if (!from.equals(to)) {
                    due(from + " to " + to + ", kind 0", with(from, to).ladder(0, 1, 0), kind0 ? 1 : -1);
                    due(from + " to " + to + ", kind 1", with(from, to).ladder(0, 1, 1), kind1 ? 1 : -1);
                }
            }
        }
    }

    private static boolean isAmong(String[] pairs, String one, String other) {
        for (String pair : pairs) {
            if (pair.equals(one + " " + other) || pair.equals(other + " " + one)) {
                return true;
            }
        }
        return false;
    }

    private static void ladders() {
        LadderWords x = with("cold", "warm", "ward", "card", "cord", "word", "worm", "corm", "wald", "wold");
        due("cold to warm", x.ladder(0, 1, 0), 4);
        due("its words", ladderOf(x), "0 4 3 2 1");
        due("how many", x.ways(), 7L);
        due("warm to cold", x.ladder(1, 0, 0), 4);
        due("its words", ladderOf(x), "1 2 3 4 0");
    }

    private static void gatherings() {
        LadderWords x = with("to", "ot", "t", "o");
        type(x, "toot");
        due("gather", x.gather(4), 6);
        due("gatherings", gatheringsOf(x), "0 0, 0 1, 0 2 3, 1 1, 1 2 3, 2 2 3 3");
    }

    private static void squares() {
        LadderWords x = with("rear", "card", "area", "dart", "star", "stare");
        due("square 4", x.square(4), true);
        due("its words", squareOf(x), "1 2 0 3");
        due("square 3", x.square(3), false);
    }

    private static void theLessSquare() {
        LadderWords x = with("no", "on", "oo", "nn");
        due("square 2", x.square(2), true);
        due("no on, before no oo that is none, and on nn", squareOf(x), "0 1");
        LadderWords y = with("on", "oo", "no", "nn");
        due("square 2", y.square(2), true);
        due("on no, before on nn", squareOf(y), "0 2");
    }

    private static void grid() {
        LadderWords x = with("a", "b", "c", "d", "e", "f", "g", "h");
        for (int c = 0; c < 64; c++) {
            due("hide at " + c, x.hide((c + c / 8) % 8, c % 8, c / 8, 0), true);
        }
        due("cells", gridOf(x), "abcdefghbcdefghacdefghabdefghabcefghabcdfghabcdeghabcdefhabcdefg");
    }

    private static void directions() {
        for (int direction = 0; direction < 8; direction++) {
            LadderWords x = with("abcd");
            due("hide in " + direction, x.hide(0, 3, 4, direction), true);
            for (int i = 0; i < 4; i++) {
                int there = x.cell(3 + i * RIGHT[direction], 4 + i * DOWN[direction]);
                due("letter " + i + " in " + direction, there, "abcd".charAt(i) + 0);
            }
        }
    }

    private static void stands() {
        LadderWords x = with("stop", "pots", "top", "opt", "tops");
        due("hide", x.hide(0, 7, 0, 3), true);
        due("stop", placesOf(x, 0), "" + (8 * 7 + 3));
        due("pots", placesOf(x, 1), "" + (8 * (4 + 8 * 3) + 7));
        due("top", placesOf(x, 2), "" + (8 * (6 + 8) + 3));
        due("opt", placesOf(x, 3), "");
        due("tops", placesOf(x, 4), "");
    }

    // Promises 1 to 4

    private static void newObject() {
        with("some", "words").fill(3);
        LadderWords x = new LadderWords();
        due("words", wordsOf(x), "");
        due("cells", gridOf(x), ".".repeat(64));
        due("word of the row", x.word(), -1);
    }

    private static void unit() {
        LadderWords x = new LadderWords();
        due("c", x.unit('c'), true);
        due("C", x.unit('C'), false);
        due("a", x.unit('a'), true);
        due("no letter", x.unit(0), false);
        due("t", x.unit('t'), true);
        due("word", x.word(), 0);
        due("its letters", textOf(x, 0), "cat");
        type(x, "catcatcatcat");
        due("the thirteenth", x.unit('a'), false);
        due("four cats", x.gather(4), 1);
    }

    private static void word() {
        LadderWords x = with("cat", "cats");
        due("cat again", add(x, "cat"), 0);
        due("no letters", x.word(), -1);
        due("seven letters", add(x, "catcatc"), -1);
        for (int w = 2; w < 60; w++) {
            due("word " + w, add(x, "" + (char) ('a' + w % 25) + (char) ('a' + w / 25)), w);
        }
        due("the 61st", add(x, "new"), -1);
        due("cats again", add(x, "cats"), 1);
    }

    private static void rowIsEmptyAfterWord() {
        LadderWords x = with("a");
        for (String row : new String[] {"b", "a", "aaaaaaa", "", "c"}) {
            add(x, row);
            due("the row after " + row, x.gather(4), 0);
            type(x, "a");
            due("a alone after " + row, x.gather(4), 1);
            due("a after " + row, x.word(), 0);
        }
        due("words", wordsOf(x), "a b c");
    }

    private static void letter() {
        LadderWords x = with("planet", "o", "sun");
        due("letter 0 of planet", x.letter(0, 0), 'p' + 0);
        due("letter 3 of planet", x.letter(0, 3), 'n' + 0);
        due("letter 5 of planet", x.letter(0, 5), 't' + 0);
        due("letter 6 of planet", x.letter(0, 6), -1);
        due("letter 0 of o", x.letter(1, 0), 'o' + 0);
        due("letter 1 of o", x.letter(1, 1), -1);
        due("letter -1 of sun", x.letter(2, -1), -1);
        due("letter 0 of no word", x.letter(3, 0), -1);
    }

    // Promises 5 to 7

    private static void ladder() {
        LadderWords x = with(WORDS);
        due("cat to dog", x.ladder(0, 2, 0), 3);
        due("cat, cot, cog, dog", ladderOf(x), "0 1 3 2");
        due("dog to dog", x.ladder(2, 2, 0), 0);
        due("dog", ladderOf(x), "2");
        due("cat to o", x.ladder(0, 9, 0), -1);
        due("none", ladderOf(x), "");
        due("cat to o, kind 1", x.ladder(0, 9, 1), 3);
        due("cat, at, a, o", ladderOf(x), "0 5 8 9");
        due("no word", x.ladder(0, 11, 1), -1);
        due("none", ladderOf(x), "");
        due("cat to cot", x.ladder(0, 1, 0), 1);
        due("no kind", x.ladder(0, 1, 2), -1);
        due("none", ladderOf(x), "");
    }

    private static void step() {
        LadderWords x = with(WORDS);
        due("cat to dog", x.ladder(0, 2, 0), 3);
        due("step 0", x.step(0), 0);
        due("step 1", x.step(1), 1);
        due("step 2", x.step(2), 3);
        due("step 3", x.step(3), 2);
        due("step 4", x.step(4), -1);
        due("step -1", x.step(-1), -1);
        due("dot to cot", x.ladder(4, 1, 0), 1);
        due("step 0", x.step(0), 4);
        due("step 2", x.step(2), -1);
        due("a new word", add(x, "new"), 11);
        due("step 0", x.step(0), -1);
    }

    private static void ways() {
        LadderWords x = with(WORDS);
        due("before any", x.ways(), 0L);
        due("cat to dog", x.ladder(0, 2, 0), 3);
        due("by cog and by dot", x.ways(), 2L);
        due("cat to o, kind 1", x.ladder(0, 9, 1), 3);
        due("by at a and by at t", x.ways(), 2L);
        due("cat to itself", x.ladder(0, 0, 1), 0);
        due("one", x.ways(), 1L);
        due("cat to o", x.ladder(0, 9, 0), -1);
        due("without one", x.ways(), 0L);
    }

    // Promises 8 and 9

    private static void gather() {
        LadderWords x = with(WORDS);
        type(x, "tato");
        due("most 1", x.gather(1), 0);
        due("most 2", x.gather(2), 2);
        due("at to, to ta", gatheringsOf(x), "5 6, 6 7");
        due("most 3", x.gather(3), 5);
        due("most 4", x.gather(4), 6);
        due("all", gatheringsOf(x), "5 6, 5 9 10, 6 7, 6 8 10, 7 9 10, 8 9 10 10");
        due("most 0", x.gather(0), -1);
        due("most 5", x.gather(5), -1);
        due("those of most 4", gatheringsOf(x), "5 6, 5 9 10, 6 7, 6 8 10, 7 9 10, 8 9 10 10");
    }

    private static void rowStays() {
        LadderWords x = with("ab");
        type(x, "ba");
        due("gather", x.gather(4), 1);
        due("gather again", x.gather(4), 1);
        type(x, "q");
        due("gather with q", x.gather(4), 0);
        due("the row", x.word(), 1);
        due("its letters", textOf(x, 1), "baq");
    }

    private static void atMost200() {
        String[] words = {"abc", "acb", "bac", "bca", "cab", "cba", "a", "b", "c", "ab", "ba", "ac", "ca", "bc", "cb"};
        LadderWords x = with(words);
        type(x, "abcabcabc");
        int all = x.gather(4);
        String[] first = firstOfFour(words, "aaabbbccc", 200);
        due("more than 200", all > 200, true);
        for (int k = 0; k < 200; k += 5) {
            due("gathering " + k, gatheringOf(x, k), first[k]);
        }
        due("gathering 199", gatheringOf(x, 199), first[199]);
        due("gathering 200", x.gathered(200, 0), -1);
    }

    /** By trying all rows of up to four words in order; -1 is no word more, and comes before all others. */
    private static String[] firstOfFour(String[] words, String sorted, int wanted) {
        String[] found = new String[wanted];
        int count = 0;
        for (int a = 0; a < words.length; a++) {
            for (int b = -1; b < words.length; b = Math.max(b + 1, a)) {
                for (int c = -1; c < (b < 0 ? 0 : words.length); c = Math.max(c + 1, b)) {
                    for (int d = -1; d < (c < 0 ? 0 : words.length); d = Math.max(d + 1, c)) {
                        String text = at(words, a) + at(words, b) + at(words, c) + at(words, d);
                        if (count < wanted && sorted(text).equals(sorted)) {
                            found[count++] = (a + " " + b + " " + c + " " + d).replace(" -1", "");
                        }
                    }
                }
            }
        }
        return found;
    }

    private static String at(String[] words, int w) {
        return w < 0 ? "" : words[w];
    }

    private static String sorted(String text) {
        char[] letters = text.toCharArray();
        java.util.Arrays.sort(letters);
        return new String(letters);
    }

    private static void noneOfAnEmptyRow() {
        LadderWords x = with(WORDS);
        for (int most = 1; most <= 4; most++) {
            due("most " + most, x.gather(most), 0);
            due("gatherings", gatheringsOf(x), "");
        }
    }

    private static void gathered() {
        LadderWords x = with(WORDS);
        due("before any", x.gathered(0, 0), -1);
        type(x, "tato");
        due("gather", x.gather(3), 5);
        due("word 0 of 1", x.gathered(1, 0), 5);
        due("word 1 of 1", x.gathered(1, 1), 9);
        due("word 2 of 1", x.gathered(1, 2), 10);
        due("word 3 of 1", x.gathered(1, 3), -1);
        due("word 2 of 0", x.gathered(0, 2), -1);
        due("word 0 of 5", x.gathered(5, 0), -1);
        due("word 0 of -1", x.gathered(-1, 0), -1);
        due("word -1 of 0", x.gathered(0, -1), -1);
        due("a new word", x.word(), 11);
        due("word 0 of 0", x.gathered(0, 0), -1);
    }

    // Promises 10 and 11

    private static void square() {
        LadderWords x = with("heart", "card", "bit", "on", "ember", "area", "ice", "no", "abuse", "rear", "ten", "resin",
            "dart", "trend", "stare");
        due("2", x.square(2), true);
        due("on, no", squareOf(x), "3 7");
        due("3", x.square(3), true);
        due("bit, ice, ten", squareOf(x), "2 6 10");
        due("4", x.square(4), true);
        due("card, area, rear, dart", squareOf(x), "1 5 9 12");
        due("5", x.square(5), true);
        due("heart, ember, abuse, resin, trend", squareOf(x), "0 4 8 11 13");
        due("1", x.square(1), false);
        due("none", squareOf(x), "");
        due("3", x.square(3), true);
        due("6", x.square(6), false);
        due("none", squareOf(x), "");
        LadderWords y = with("aa", "card", "area", "rear");
        due("2", y.square(2), true);
        due("without dart", y.square(4), false);
        due("none", squareOf(y), "");
    }

    private static void line() {
        LadderWords x = with("bit", "on", "ice", "no", "ten");
        due("before any", x.line(0), -1);
        due("3", x.square(3), true);
        due("line 0", x.line(0), 0);
        due("line 1", x.line(1), 2);
        due("line 2", x.line(2), 4);
        due("line 3", x.line(3), -1);
        due("line -1", x.line(-1), -1);
        due("2", x.square(2), true);
        due("line 0", x.line(0), 1);
        due("line 2", x.line(2), -1);
        due("a new word", add(x, "new"), 5);
        due("line 0", x.line(0), -1);
    }

    // Promises 12 to 17

    private static void hide() {
        LadderWords x = with("cat", "tea", "ace");
        due("cat", x.hide(0, 5, 0, 0), true);
        due("tea down from its t", x.hide(1, 7, 0, 2), true);
        due("ace from the a of cat", x.hide(2, 6, 0, 3), true);
        String cells = ".....cat" + ".....c.e" + "....e..a" + ".".repeat(40);
        due("cells", gridOf(x), cells);
        due("no word", x.hide(3, 0, 7, 0), false);
        due("no cell", x.hide(0, 0, 8, 0), false);
        due("no direction", x.hide(0, 0, 7, 8), false);
        due("beyond the grid", x.hide(0, 1, 7, 4), false);
        due("another letter", x.hide(0, 5, 1, 0), false);
        due("cells", gridOf(x), cells);
    }

    private static void fill() {
        LadderWords x = with("cat", "o");
        due("hide", x.hide(0, 0, 0, 0), true);
        due("fill", x.fill(20261116L), 61);
        StringBuilder cells = new StringBuilder("cat");
        long state = 20261116L;
        while (cells.length() < 64) {
            state = state * 6364136223846793005L + 1442695040888963407L;
            cells.append("cato".charAt((int) (state >>> 33) % 4));
        }
        due("cells", gridOf(x), cells.toString());
    }

    private static void howManyWereEmpty() {
        LadderWords x = new LadderWords();
        due("no words", x.fill(5L), -1);
        due("cells", gridOf(x), ".".repeat(64));
        due("a word", add(x, "planet"), 0);
        due("all", x.fill(5L), 64);
        due("none", x.fill(6L), 0);
        x.wipe();
        due("hide", x.hide(0, 0, 0, 1), true);
        due("all but six", x.fill(5L), 58);
    }

    private static void cell() {
        LadderWords x = with("cat");
        due("hide", x.hide(0, 7, 7, 6), true);
        due("c", x.cell(7, 7), 'c' + 0);
        due("a", x.cell(7, 6), 'a' + 0);
        due("t", x.cell(7, 5), 't' + 0);
        due("empty", x.cell(5, 7), 0);
        due("none on the right", x.cell(8, 7), -1);
        due("none below", x.cell(7, 8), -1);
        due("none on the left", x.cell(-1, 7), -1);
        due("none above", x.cell(7, -1), -1);
    }

    private static void found() {
        LadderWords x = with("noon", "no", "o", "on", "cat");
        due("hide", x.hide(0, 2, 3, 1), true);
        due("noon, forth and back", x.found(0), 2);
        due("no", x.found(1), 2);
        due("o", x.found(2), 16);
        due("on", x.found(3), 2);
        due("cat", x.found(4), 0);
        due("no word", x.found(5), -1);
    }

    private static void where() {
        LadderWords x = with("noon", "no", "o", "on", "cat");
        due("hide", x.hide(0, 2, 3, 1), true);
        int first = 8 * (2 + 8 * 3);
        int next = 8 * 9;
        due("noon", placesOf(x, 0), (first + 1) + " " + (first + 3 * next + 5));
        due("no", placesOf(x, 1), (first + 1) + " " + (first + 3 * next + 5));
        due("on", placesOf(x, 3), (first + next + 5) + " " + (first + 2 * next + 1));
        for (int k = 0; k < 16; k++) {
            due("o " + k, x.where(2, k), first + (1 + k / 8) * next + k % 8);
        }
        due("o 16", x.where(2, 16), -1);
        due("o -1", x.where(2, -1), -1);
        due("cat", x.where(4, 0), -1);
        due("no word", x.where(5, 0), -1);
    }

    private static void wipe() {
        LadderWords x = with("cat");
        due("fill", x.fill(1L), 64);
        x.wipe();
        due("cells", gridOf(x), ".".repeat(64));
    }

    // Nothing beyond the answers and state changes described

    /** Six words, a ladder, a square, gatherings, a row and a grid, in 40 calls or so. */
    private static LadderWords story() {
        LadderWords x = with("on", "no", "in", "n", "o", "so");
        due("ladder", x.ladder(0, 2, 0), 1);
        due("square", x.square(2), true);
        type(x, "noo");
        due("gather", x.gather(2), 2);
        due("hide", x.hide(1, 3, 3, 2), true);
        return x;
    }

    private static final String WORDS_THEN = "on no in n o so";
    private static final String LADDER_THEN = "0 2";
    private static final String GATHERINGS_THEN = "0 4, 1 4";
    private static final String SQUARE_THEN = "0 1";
    private static final String GRID_THEN = ".".repeat(27) + "n" + ".".repeat(7) + "o" + ".".repeat(28);
    private static final String ROW_THEN = "noo";

    private static String stateOf(LadderWords x) {
        String state = wordsOf(x) + " | " + ladderOf(x) + " | " + x.ways() + " | " + gatheringsOf(x) + " | " + squareOf(x)
            + " | " + gridOf(x);
        int row = x.word();
        return state + " | " + (row == -1 ? "" : textOf(x, row));
    }

    private static String state(String ladder, int ways, String gatherings, String square, String grid, String row) {
        return WORDS_THEN + " | " + ladder + " | " + ways + " | " + gatherings + " | " + square + " | " + grid + " | " + row;
    }

    private static void dueState(String name, Consumer<LadderWords> call, String state) {
        LadderWords x = story();
        call.accept(x);
        due("after " + name + " the state", stateOf(x), state);
    }

    private static void askingChangesNothing() {
        String same = state(LADDER_THEN, 1, GATHERINGS_THEN, SQUARE_THEN, GRID_THEN, ROW_THEN);
        dueState("nothing", x -> { }, same);
        dueState("letter", x -> due("letter", x.letter(2, 0), 'i' + 0), same);
        dueState("step", x -> due("step", x.step(1), 2), same);
        dueState("ways", x -> due("ways", x.ways(), 1L), same);
        dueState("gathered", x -> due("gathered", x.gathered(1, 1), 4), same);
        dueState("line", x -> due("line", x.line(1), 1), same);
        dueState("cell", x -> due("cell", x.cell(3, 4), 'o' + 0), same);
        dueState("found", x -> due("found", x.found(0), 1), same);
        dueState("where", x -> due("where", x.where(0, 0), 8 * 35 + 6), same);
    }

    private static void doingChangesItsOwnAlone() {
        dueState("unit", x -> due("unit", x.unit('n'), true),
            state(LADDER_THEN, 1, GATHERINGS_THEN, SQUARE_THEN, GRID_THEN, "noon"));
        dueState("ladder", x -> due("ladder", x.ladder(1, 5, 0), 1),
            state("1 5", 1, GATHERINGS_THEN, SQUARE_THEN, GRID_THEN, ROW_THEN));
        dueState("gather", x -> due("gather", x.gather(1), 0),
            state(LADDER_THEN, 1, "", SQUARE_THEN, GRID_THEN, ROW_THEN));
        dueState("square", x -> due("square", x.square(3), false),
            state(LADDER_THEN, 1, GATHERINGS_THEN, "", GRID_THEN, ROW_THEN));
        dueState("hide", x -> due("hide", x.hide(3, 0, 0, 0), true),
            state(LADDER_THEN, 1, GATHERINGS_THEN, SQUARE_THEN, "n" + GRID_THEN.substring(1), ROW_THEN));
        dueState("wipe", LadderWords::wipe,
            state(LADDER_THEN, 1, GATHERINGS_THEN, SQUARE_THEN, ".".repeat(64), ROW_THEN));
        LadderWords filled = story();
        due("fill", filled.fill(8L), 62);
        String grid = gridOf(filled);
        due("hidden letters", grid.charAt(27) + "" + grid.charAt(35), "no");
        due("after fill the state", stateOf(filled), state(LADDER_THEN, 1, GATHERINGS_THEN, SQUARE_THEN, grid, ROW_THEN));
    }

    private static void aNewWordEndsWhatWasFound() {
        LadderWords x = story();
        due("word", x.word(), 6);
        due("after word the state", stateOf(x), WORDS_THEN + " noo |  | 1 |  |  | " + GRID_THEN + " | ");
    }

    private static void testTerms() {
        test("THE ROW is up to 12 letters a to z (bytes 97 to 122).", EverySentence::row);
        test("WORDS are numbered from 0 on as they came, at most 60, of 1 to 6 letters each, no two the same.",
            EverySentence::wordsAsTheyCame);
        test("A STEP of a ladder goes from a word to another one: of as many letters, of which just one differs (kind 0);"
            + " or (kind 1) such a one, or one that has one letter more somewhere, all others being the same in their"
            + " order, or one letter less.", EverySentence::steps);
        test("A LADDER is a row of words, each a step from the one before; it is the shorter the fewer steps; of two of as"
            + " many that is the less one which has the lesser number at the first place where they differ.",
            EverySentence::ladders);
        test("A GATHERING of letters is a row of words, by rising numbers (the same one more than once, too), that have"
            + " together just these letters, each as often.", EverySentence::gatherings);
        test("A SQUARE of n is n words of n letters each, not need be different, so that for all i and j letter j of the"
            + " i-th is letter i of the j-th.", EverySentence::squares);
        test("The less one of two has the lesser number at the first place where they differ.",
            EverySentence::theLessSquare);
        test("THE GRID has 8 by 8 CELLS (x, y), each with a letter or empty.", EverySentence::grid);
        test("DIRECTIONS: 0 to the right, then on by an eighth of a turn each: 1 right and down, 2 down, 3 left and down,"
            + " 4 left, 5 left and up, 6 up, 7 right and up.", EverySentence::directions);
        test("A word STANDS at a cell in a direction when its letters, from there on cell by cell, are those of THE GRID.",
            EverySentence::stands);
    }

    private static void testPromises1To7() {
        test("No words, the row empty, all cells empty.", EverySentence::newObject);
        test("A letter comes to the row: true; false, doing nothing, when it is none, or there are 12.",
            EverySentence::unit);
        test("The row becomes a word: its number (that which it had, when there is such a word); -1 when the row has no"
            + " letters, more than 6, or it would be the 61st word.", EverySentence::word);
        test("The row is empty then, in any case.", EverySentence::rowIsEmptyAfterWord);
        test("Letter i of a word; -1 when there is none.", EverySentence::letter);
        test("The least shortest ladder from a word to another one is found: how many steps (0 from a word to itself); -1"
            + " when there is none, or no such word or kind (then none is found).", EverySentence::ladder);
        test("Word k (from 0 on, the first one at 0) of the ladder found latest; -1 when there is none such, or a word"
            + " came since.", EverySentence::step);
        test("How many shortest ladders there are, of the ladder found latest; 0 without one.", EverySentence::ways);
    }

    private static void testPromises8To11() {
        test("The GATHERINGS of the row's letters with at most so many words (1 to 4) are found: how many there are; -1,"
            + " doing nothing, when most is not so.", EverySentence::gather);
        test("The row stays.", EverySentence::rowStays);
        test("At most 200 are kept, the first ones, by the numbers of their words in order.", EverySentence::atMost200);
        test("(None, when the row is empty.)", EverySentence::noneOfAnEmptyRow);
        test("Word i of the k-th GATHERING kept; -1 when there is none such, or a word came since.",
            EverySentence::gathered);
        test("The least SQUARE of n (2 to 5) is found: true; false when there is none, or n is not so (none is found"
            + " then).", EverySentence::square);
        test("The i-th word of the square found latest; -1 when there is none such, or a word came since.",
            EverySentence::line);
    }

    private static void testPromises12To17() {
        test("A word is put into THE GRID from a cell on in a direction: true; false, doing nothing, when there is no such"
            + " word, cell or direction, it would go beyond THE GRID, or another letter is there at some cell.",
            EverySentence::hide);
        test("All empty cells get letters, (0, 0), (1, 0), .. in order: X is the seed at first; each time X becomes"
            + " 6364136223846793005 X + 1442695040888963407 (64 bits), and the letter is that of WORDS that stands, of all"
            + " letters of all words one behind the other, at the place which is the upper 31 bits of X modulo how many"
            + " there are.", EverySentence::fill);
        test("How many were empty; -1, doing nothing, when there are no words.", EverySentence::howManyWereEmpty);
        test("The letter of a cell; 0 when it is empty, -1 when there is none.", EverySentence::cell);
        test("At how many cells and directions a word STANDS (one of one letter in all eight of them); -1 when there is no"
            + " such word.", EverySentence::found);
        test("The k-th of these (from 0 on), by rows of cells, then directions: 8 times the cell's number (x + 8 y) and"
            + " the direction; -1 when there is none.", EverySentence::where);
        test("All cells are empty.", EverySentence::wipe);
    }

    private static void testNotPromised() {
        String beyond = "Nothing is promised beyond the answers and state changes described above";
        test(beyond + ": calls that ask", EverySentence::askingChangesNothing);
        test(beyond + ": calls that do", EverySentence::doingChangesItsOwnAlone);
        test(beyond + ": a new word", EverySentence::aNewWordEndsWhatWasFound);
    }

    public static void main(String[] args) {
        testTerms();
        testPromises1To7();
        testPromises8To11();
        testPromises12To17();
        testNotPromised();
        System.out.println(tests + " sentences, " + (wrong == 0 ? "all answers are as due" : wrong + " answers are not"));
        if (wrong != 0) {
            System.exit(1);
        }
    }
}
