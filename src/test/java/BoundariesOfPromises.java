import java.math.BigInteger;

/** The boundary cases of promises 1 to 17: a test of its own for each sentence that names one. */
public final class BoundariesOfPromises {
    private static final int[] OUT = {Integer.MIN_VALUE, Integer.MIN_VALUE + 1, -65_536, -256, -61, -2, -1,
        200, 256, 512, 65_536, 1 << 29, 1 << 30, Integer.MAX_VALUE - 1, Integer.MAX_VALUE};
    private static final String[] FOURS = {"abcd", "abdc", "acbd", "acdb", "adbc", "adcb", "bacd", "badc", "bcad",
        "bcda", "bdac", "bdca", "cabd", "cadb", "cbad", "cbda", "cdab", "cdba", "dabc"};
    private static final String[] SIXES = {"aabbcd", "aabcbd", "aabcdb", "ababcd", "abacbd", "abcabd", "abcdab",
        "bacdab", "cabdab", "dabcab", "dcabab"};
    private static final int[] RIGHT = {1, 1, 0, -1, -1, -1, 0, 1};
    private static final int[] DOWN = {0, 1, 1, 1, 0, -1, -1, -1};
    private static String sentence = "";
    private static int tests = 0;
    private static int wrong = 0;

    private static void test(String words, Runnable body) {
        sentence = words;
        tests++;
        try {
            body.run();
        } catch (RuntimeException thrown) {
            wrong++;
            System.out.println("[" + sentence + "] the machine threw " + thrown);
        }
    }

    private static void due(String call, long got, long want) {
        if (got != want) {
            wrong++;
            System.out.println("[" + sentence + "] " + call + " answered " + got + ", due is " + want);
        }
    }

    private static void due(String call, boolean got, boolean want) {
        due(call, got ? 1 : 0, want ? 1 : 0);
    }

    private static void type(LadderWords x, String letters) {
        for (int i = 0; i < letters.length(); i++) {
            due("unit " + i + " of " + letters, x.unit(letters.charAt(i)), true);
        }
    }

    private static int add(LadderWords x, String letters) {
        type(x, letters);
        return x.word();
    }

    private static LadderWords with(String... words) {
        LadderWords x = new LadderWords();
        for (int w = 0; w < words.length; w++) {
            due("word " + words[w], add(x, words[w]), w);
        }
        return x;
    }

    /** a to z, then aa to az, then ba to bh: sixty words in 154 calls. */
    private static LadderWords withSixty() {
        LadderWords x = new LadderWords();
        for (int w = 0; w < 60; w++) {
            String last = "" + (char) ('a' + w % 26);
            due("word " + w, add(x, w < 26 ? last : (char) ('a' + w / 26 - 1) + last), w);
        }
        return x;
    }

    /** Word k differs from the one before at place k modulo 6, and from any other at two places or more. */
    private static LadderWords withLongestLadder() {
        LadderWords x = new LadderWords();
        char[] letters = "aaaaaa".toCharArray();
        for (int w = 0; w < 60; w++) {
            if (w > 0) {
                letters[w % 6]++;
            }
            due("word " + w, add(x, new String(letters)), w);
        }
        return x;
    }

    private static void dueNoLadder(String name, LadderWords x) {
        for (int k = -1; k <= 3; k++) {
            due(name + ": step " + k, x.step(k), -1);
        }
        due(name + ": ways", x.ways(), 0);
    }

    private static void dueNoSquare(String name, LadderWords x) {
        for (int i = -1; i <= 5; i++) {
            due(name + ": line " + i, x.line(i), -1);
        }
    }

    private static void dueGathered(LadderWords x, int k, int... words) {
        for (int i = 0; i < words.length; i++) {
            due("gathered " + k + ", " + i, x.gathered(k, i), words[i]);
        }
        for (int i = words.length; i <= 5; i++) {
            due("gathered past the end " + k + ", " + i, x.gathered(k, i), -1);
        }
    }

    private static void dueEmptyGrid(String name, LadderWords x) {
        dueGrid(name, x, ".".repeat(64));
    }

    private static void dueGrid(String name, LadderWords x, String letters) {
        for (int c = 0; c < 64; c++) {
            int letter = letters.charAt(c);
            due(name + ": cell " + c, x.cell(c % 8, c / 8), letter == '.' ? 0 : letter);
        }
    }

    // Promise 1: a new object

    private static void newHasNoWords() {
        LadderWords x = new LadderWords();
        due("letter", x.letter(0, 0), -1);
        due("found", x.found(0), -1);
        due("where", x.where(0, 0), -1);
        due("ladder", x.ladder(0, 0, 0), -1);
        due("square", x.square(2), false);
        due("hide", x.hide(0, 0, 0, 0), false);
        due("fill", x.fill(0), -1);
        due("the first word", add(x, "z"), 0);
        due("another object's words", new LadderWords().letter(0, 0), -1);
    }

    private static void newHasAnEmptyRow() {
        due("word", new LadderWords().word(), -1);
        due("gather", new LadderWords().gather(4), 0);
        LadderWords x = new LadderWords();
        due("a word of one letter", add(x, "q"), 0);
        due("its letter", x.letter(0, 0), 'q');
        due("no more", x.letter(0, 1), -1);
    }

    private static void newHasEmptyCells() {
        dueEmptyGrid("new", new LadderWords());
    }

    private static void newHasFoundNothing() {
        LadderWords x = new LadderWords();
        dueNoLadder("new", x);
        dueNoSquare("new", x);
        dueGathered(x, 0);
    }

    // Promise 2: unit

    private static void unitComes() {
        for (char u = 'a'; u <= 'z'; u++) {
            LadderWords x = new LadderWords();
            due("unit " + u, x.unit(u), true);
            due("word of " + u, x.word(), 0);
            due("letter of " + u, x.letter(0, 0), u);
        }
    }

    private static void unitIsNoLetter() {
        for (int u : new int[] {96, 123, 0, -1, 65, 90, 353, 65_633, Integer.MIN_VALUE, Integer.MAX_VALUE}) {
            LadderWords x = new LadderWords();
            due("a", x.unit('a'), true);
            due("unit " + u, x.unit(u), false);
            due("b", x.unit('b'), true);
            due("word", x.word(), 0);
            due("letter 0", x.letter(0, 0), 'a');
            due("letter 1", x.letter(0, 1), 'b');
            due("letter 2", x.letter(0, 2), -1);
        }
    }

    private static void unitWhenThereAre12() {
        LadderWords x = with("abcdef", "ghijkl", "hijklm", "bcdefg");
        type(x, "abcdefghijkl");
        due("the twelve", x.gather(2), 1);
        for (int u : new int[] {'m', 'a', 'z', 0, 123}) {
            due("unit " + u, x.unit(u), false);
        }
        due("the twelve stay", x.gather(2), 1);
        dueGathered(x, 0, 0, 1);
        due("too long", x.word(), -1);
        due("room again", x.unit('m'), true);
    }

    // Promise 3: word

    private static void wordThatThereIs() {
        LadderWords x = with("abcdef", "a", "ab");
        due("the first", add(x, "abcdef"), 0);
        due("the last", add(x, "ab"), 2);
        due("one of one letter", add(x, "a"), 1);
        due("no word came", x.letter(3, 0), -1);
        due("the next new one", add(x, "abc"), 3);
    }

    private static void wordThatThereIsWhenFull() {
        LadderWords x = withSixty();
        due("the first", add(x, "a"), 0);
        due("the last", add(x, "bh"), 59);
        due("the one between", add(x, "z"), 25);
    }

    private static void wordOfNoLetters() {
        LadderWords x = with("a");
        due("no letters", x.word(), -1);
        due("no letters again", x.word(), -1);
        due("no word came", x.letter(1, 0), -1);
    }

    private static void wordOfMoreThan6() {
        due("six", add(new LadderWords(), "abcdef"), 0);
        for (int n = 7; n <= 12; n++) {
            LadderWords x = with("abcdef", "bcdefg");
            due(n + " letters", add(x, "abcdefghijkl".substring(0, n)), -1);
            due("no word came of " + n, x.letter(2, 0), -1);
        }
    }

    private static void word61() {
        LadderWords x = withSixty();
        due("the 61st", add(x, "zz"), -1);
        due("it is not there", x.letter(60, 0), -1);
        due("nor the second time", add(x, "zz"), -1);
        due("the 60th stays", x.letter(59, 0), 'b');
    }

    /** The row was empty when a word of the one letter that comes next is made of it. */
    private static void dueEmptyRow(String name, LadderWords x, int number) {
        due(name + ": gather", x.gather(4), 0);
        due(name + ": next letter", x.unit('q'), true);
        due(name + ": next word", x.word(), number);
        due(name + ": its letter", x.letter(number, 0), 'q');
        due(name + ": no other", x.letter(number, 1), -1);
    }

    private static void rowIsEmptyThen() {
        dueEmptyRow("a new word", with("ab"), 1);
        LadderWords known = with("ab");
        add(known, "ab");
        dueEmptyRow("a known word", known, 1);
        LadderWords none = with("ab");
        none.word();
        dueEmptyRow("no letters", none, 1);
        LadderWords longer = with("ab");
        add(longer, "abababa");
        dueEmptyRow("seven letters", longer, 1);
        LadderWords longest = with("ab");
        add(longest, "abababababab");
        dueEmptyRow("twelve letters", longest, 1);
        LadderWords full = withSixty();
        add(full, "zz");
        dueEmptyRow("the 61st", full, 16);
    }

    // Promise 4: letter

    private static void letterOfNoWord() {
        LadderWords x = with("abc", "d");
        due("word -1", x.letter(-1, 0), -1);
        due("word 1", x.letter(1, 0), 'd');
        due("word 2", x.letter(2, 0), -1);
        for (int n : OUT) {
            due("word " + n, x.letter(n, 0), -1);
        }
        LadderWords full = withSixty();
        due("word 59", full.letter(59, 0), 'b');
        due("word 60", full.letter(60, 0), -1);
        due("word 61", full.letter(61, 0), -1);
    }

    private static void letterThatIsNone() {
        LadderWords x = with("a", "bcdefg", "hi");
        due("letter 0", x.letter(0, 0), 'a');
        due("no letter of the next word", x.letter(0, 1), -1);
        due("no letter of the word before", x.letter(1, -1), -1);
        due("letter 5", x.letter(1, 5), 'g');
        due("letter 6", x.letter(1, 6), -1);
        due("the last letter of all", x.letter(2, 1), 'i');
        due("past the last of all", x.letter(2, 2), -1);
        for (int n : OUT) {
            due("letter " + n, x.letter(1, n), -1);
        }
    }

    // Promise 5: ladder

    private static void ladderToItself() {
        LadderWords x = withSixty();
        for (int word : new int[] {0, 25, 26, 59}) {
            for (int kind = 0; kind <= 1; kind++) {
                due("ladder of " + word, x.ladder(word, word, kind), 0);
                due("step 0", x.step(0), word);
                due("step 1", x.step(1), -1);
                due("ways", x.ways(), 1);
            }
        }
    }

    private static void ladderThereIsNone() {
        LadderWords x = with("aa", "ab", "cd", "aaaa");
        for (int kind = 0; kind <= 1; kind++) {
            due("found first", x.ladder(0, 1, kind), 1);
            due("none", x.ladder(0, 2, kind), -1);
            dueNoLadder("none", x);
            due("found first", x.ladder(0, 1, kind), 1);
            due("none", x.ladder(3, 1, kind), -1);
            dueNoLadder("none", x);
        }
    }

    private static void dueRefusedLadder(LadderWords x, int from, int to, int kind) {
        String call = "ladder " + from + ", " + to + ", " + kind;
        due("found first", x.ladder(0, 1, 0), 1);
        due(call, x.ladder(from, to, kind), -1);
        dueNoLadder(call, x);
    }

    private static void ladderOfNoWord() {
        LadderWords x = with("aa", "ab");
        dueRefusedLadder(x, -1, 1, 0);
        dueRefusedLadder(x, 2, 1, 0);
        dueRefusedLadder(x, 0, -1, 1);
        dueRefusedLadder(x, 0, 2, 1);
        dueRefusedLadder(x, 2, 2, 0);
        dueRefusedLadder(x, -1, -1, 1);
        for (int n : OUT) {
            dueRefusedLadder(x, n, 0, 0);
            dueRefusedLadder(x, 0, n, 1);
        }
        dueRefusedLadder(withSixty(), 60, 60, 0);
    }

    private static void ladderOfNoKind() {
        LadderWords x = with("aa", "ab");
        dueRefusedLadder(x, 0, 1, 2);
        dueRefusedLadder(x, 0, 1, -1);
        dueRefusedLadder(x, 0, 0, 2);
        for (int n : OUT) {
            dueRefusedLadder(x, 0, 1, n);
        }
    }

    private static void longestLadder() {
        LadderWords x = withLongestLadder();
        due("from the first to the last", x.ladder(0, 59, 0), 59);
        for (int k = 0; k < 60; k++) {
            due("step " + k, x.step(k), k);
        }
        due("step 60", x.step(60), -1);
        due("ways", x.ways(), 1);
        LadderWords y = withLongestLadder();
        due("from the last to the first", y.ladder(59, 0, 1), 59);
        due("step 0", y.step(0), 59);
        due("step 59", y.step(59), 0);
        due("step 60", y.step(60), -1);
    }

    // Promise 6: step

    private static void stepsFrom0On() {
        LadderWords x = with("dd", "ac", "bd", "bc");
        due("ladder", x.ladder(1, 2, 0), 2);
        due("step -1", x.step(-1), -1);
        due("step 0", x.step(0), 1);
        due("step 1", x.step(1), 3);
        due("step 2", x.step(2), 2);
        due("step 3", x.step(3), -1);
        for (int n : OUT) {
            due("step " + n, x.step(n), -1);
        }
    }

    private static void stepOfTheLatestOnly() {
        LadderWords x = with("aaa", "baa", "bba", "bbb");
        due("three steps", x.ladder(0, 3, 0), 3);
        due("one step", x.ladder(2, 3, 0), 1);
        due("step 0", x.step(0), 2);
        due("step 1", x.step(1), 3);
        due("step 2", x.step(2), -1);
        due("step 3", x.step(3), -1);
    }

    private static void stepWhenAWordCame() {
        LadderWords x = with("aa", "ab");
        due("ladder", x.ladder(0, 1, 0), 1);
        type(x, "zz");
        due("letters alone are no word", x.step(0), 0);
        due("a word came", x.word(), 2);
        for (int k = -1; k <= 3; k++) {
            due("step " + k, x.step(k), -1);
        }
        due("found again", x.ladder(0, 1, 0), 1);
        due("step 1", x.step(1), 1);
        LadderWords y = with("aa", "ab");
        due("to itself", y.ladder(1, 1, 0), 0);
        due("a word came", add(y, "z"), 2);
        due("step 0", y.step(0), -1);
    }

    // Promise 7: ways

    private static void waysWithoutALadder() {
        LadderWords x = with("aa", "bb", "ab", "ba", "q");
        due("before any", x.ways(), 0);
        due("ladder", x.ladder(0, 1, 0), 2);
        due("two ways", x.ways(), 2);
        due("none", x.ladder(0, 4, 0), -1);
        due("without one", x.ways(), 0);
        x.ladder(0, 1, 0);
        due("no such word", x.ladder(0, 5, 0), -1);
        due("without one", x.ways(), 0);
        x.ladder(0, 1, 0);
        due("no such kind", x.ladder(0, 1, 2), -1);
        due("without one", x.ways(), 0);
    }

    private static void waysOfTheShortestOnly() {
        LadderWords x = with("aa", "ba", "ca", "cb", "bb", "ab");
        due("one step", x.ladder(0, 1, 0), 1);
        due("one way", x.ways(), 1);
        due("two steps", x.ladder(0, 4, 0), 2);
        due("two ways", x.ways(), 2);
        due("the latest one's", x.ladder(0, 0, 0), 0);
        due("one way to itself", x.ways(), 1);
        LadderWords cube = new LadderWords();
        for (int w = 0; w < 32; w++) {
            String word = "";
            for (int bit = 0; bit < 5; bit++) {
                word += (w >> bit & 1) == 0 ? "a" : "b";
            }
            due("word " + w, add(cube, word), w);
        }
        due("across a cube of five", cube.ladder(0, 31, 1), 5);
        due("ways across it", cube.ways(), 120);
    }

    // Promise 8: gather

    private static void gatherWithMost1To4() {
        LadderWords x = with("a", "aa", "aaa", "aaaa");
        type(x, "aaaa");
        due("most 1", x.gather(1), 1);
        due("most 2", x.gather(2), 3);
        due("most 3", x.gather(3), 4);
        due("most 4", x.gather(4), 5);
    }

    private static void gatherWithAnotherMost() {
        LadderWords x = with("a", "aa", "aaa", "aaaa");
        type(x, "aaaa");
        due("most 2", x.gather(2), 3);
        for (int most : new int[] {0, 5, 6, -1, -4}) {
            due("most " + most, x.gather(most), -1);
        }
        for (int most : OUT) {
            due("most " + most, x.gather(most), -1);
        }
        dueGathered(x, 0, 0, 2);
        dueGathered(x, 1, 1, 1);
        dueGathered(x, 2, 3);
        dueGathered(x, 3);
        due("the row stays", x.word(), 3);
        due("of an empty row", x.gather(0), -1);
        due("of a new object", new LadderWords().gather(5), -1);
    }

    private static void rowStaysAfterGather() {
        LadderWords x = with("a", "ab");
        type(x, "ba");
        due("gather", x.gather(4), 1);
        due("gather again", x.gather(4), 1);
        due("one letter more", x.unit('a'), true);
        due("gather of three", x.gather(4), 1);
        due("the row", x.word(), 2);
        due("letter 0", x.letter(2, 0), 'b');
        due("letter 1", x.letter(2, 1), 'a');
        due("letter 2", x.letter(2, 2), 'a');
        due("letter 3", x.letter(2, 3), -1);
    }

    /** Of 19 words of abcd, 190 pairs for the row; cd goes with each of the words of six letters. */
    private static LadderWords withGatherings(int count) {
        LadderWords x = with(FOURS);
        due("cd", add(x, "cd"), 19);
        for (int i = 0; i < count - 190; i++) {
            due("word " + SIXES[i], add(x, SIXES[i]), 20 + i);
        }
        type(x, "abcdabcd");
        due("how many", x.gather(2), count);
        return x;
    }

    private static void atMost200AreKept() {
        for (int count = 198; count <= 201; count++) {
            LadderWords x = withGatherings(count);
            dueGathered(x, 0, 0, 0);
            dueGathered(x, 189, 18, 18);
            dueGathered(x, 190, 19, 20);
            for (int k = 196; k <= 202; k++) {
                boolean kept = k < Math.min(count, 200);
                due("first of " + k + " of " + count, x.gathered(k, 0), kept ? 19 : -1);
                due("second of " + k + " of " + count, x.gathered(k, 1), kept ? 20 + k - 190 : -1);
                due("third of " + k + " of " + count, x.gathered(k, 2), -1);
            }
        }
    }

    private static void theFirstOnesInOrder() {
        LadderWords x = with("aab", "b", "a", "ab", "ba");
        type(x, "aabb");
        due("how many", x.gather(4), 7);
        dueGathered(x, 0, 0, 1);
        dueGathered(x, 1, 1, 1, 2, 2);
        dueGathered(x, 2, 1, 2, 3);
        dueGathered(x, 3, 1, 2, 4);
        dueGathered(x, 4, 3, 3);
        dueGathered(x, 5, 3, 4);
        dueGathered(x, 6, 4, 4);
        dueGathered(x, 7);
    }

    private static void noneWhenTheRowIsEmpty() {
        LadderWords x = with("a", "b");
        for (int most = 1; most <= 4; most++) {
            due("most " + most, x.gather(most), 0);
            dueGathered(x, 0);
        }
        type(x, "ab");
        due("of a row", x.gather(2), 1);
        due("a word came", x.word(), 2);
        due("empty again", x.gather(2), 0);
        dueGathered(x, 0);
        type(x, "ab");
        due("of a row again", x.gather(2), 2);
        due("a word that there is", x.word(), 2);
        due("empty without a new word", x.gather(2), 0);
        dueGathered(x, 0);
    }

    // Promise 9: gathered

    private static void gatheredThatIsNone() {
        LadderWords x = with("ab", "a", "b");
        dueGathered(x, 0);
        type(x, "ab");
        due("gather", x.gather(4), 2);
        dueGathered(x, -1);
        dueGathered(x, 0, 0);
        dueGathered(x, 1, 1, 2);
        dueGathered(x, 2);
        for (int n : OUT) {
            due("gathered " + n + ", 0", x.gathered(n, 0), -1);
            due("gathered 1, " + n, x.gathered(1, n), -1);
            due("gathered both " + n, x.gathered(n, n), -1);
        }
        due("gathered 1, -3", x.gathered(1, -3), -1);
        due("gathered 0, 4", x.gathered(0, 4), -1);
    }

    private static void gatheredOfTheLatestOnly() {
        LadderWords x = with("a", "aaaa");
        type(x, "aaaa");
        due("most 4", x.gather(4), 2);
        dueGathered(x, 0, 0, 0, 0, 0);
        due("most 1", x.gather(1), 1);
        dueGathered(x, 0, 1);
        dueGathered(x, 1);
        due("b", x.unit('b'), true);
        due("none", x.gather(4), 0);
        dueGathered(x, 0);
    }

    private static void gatheredWhenAWordCame() {
        LadderWords x = with("a", "b");
        type(x, "ab");
        due("gather", x.gather(2), 1);
        dueGathered(x, 0, 0, 1);
        due("a word came", x.word(), 2);
        dueGathered(x, 0);
        type(x, "ab");
        due("gather anew", x.gather(2), 2);
        dueGathered(x, 1, 2);
    }

    // Promise 10: square

    private static void squareOf2To5() {
        LadderWords x = with("b", "bb", "bbb", "bbbb", "bbbbb", "bbbbbb");
        for (int n = 2; n <= 5; n++) {
            due("square " + n, x.square(n), true);
            for (int i = 0; i <= 5; i++) {
                due("line " + i + " of " + n, x.line(i), i < n ? n - 1 : -1);
            }
        }
    }

    private static void squareOfAnotherN() {
        LadderWords x = with("b", "bb", "bbbbbb");
        for (int n : new int[] {1, 6, 0, -1, 7, Integer.MIN_VALUE, Integer.MAX_VALUE, 1 << 30, 258}) {
            due("found first", x.square(2), true);
            due("square " + n, x.square(n), false);
            dueNoSquare("square " + n, x);
        }
    }

    private static void squareThereIsNone() {
        LadderWords x = with("aa", "abc", "bcd", "cqq", "q");
        due("found first", x.square(2), true);
        due("of 3", x.square(3), false);
        dueNoSquare("of 3", x);
        due("found first", x.square(2), true);
        due("of 5", x.square(5), false);
        dueNoSquare("of 5", x);
        due("without words", new LadderWords().square(2), false);
    }

    private static void squareOfTheLastWords() {
        LadderWords x = new LadderWords();
        for (int w = 0; w < 58; w++) {
            due("word " + w, add(x, "" + (char) ('c' + w % 12) + (char) ('o' + w / 12)), w);
        }
        due("none yet", x.square(2), false);
        due("word 58", add(x, "ab"), 58);
        due("not with one of them", x.square(2), false);
        due("word 59", add(x, "ba"), 59);
        due("with the last", x.square(2), true);
        due("line 0", x.line(0), 58);
        due("line 1", x.line(1), 59);
    }

    // Promise 11: line

    private static void lineThatIsNone() {
        LadderWords x = with("ten", "ice", "bit", "zz");
        dueNoSquare("before any", x);
        due("square", x.square(3), true);
        due("line -1", x.line(-1), -1);
        due("line 0", x.line(0), 2);
        due("line 1", x.line(1), 1);
        due("line 2", x.line(2), 0);
        due("line 3", x.line(3), -1);
        for (int n : OUT) {
            due("line " + n, x.line(n), -1);
        }
    }

    private static void lineOfTheLatestOnly() {
        LadderWords x = with("aaaaa", "bb");
        due("square of 5", x.square(5), true);
        due("line 4", x.line(4), 0);
        due("square of 2", x.square(2), true);
        due("line 0", x.line(0), 1);
        due("line 1", x.line(1), 1);
        for (int i = 2; i <= 5; i++) {
            due("line " + i, x.line(i), -1);
        }
    }

    private static void lineWhenAWordCame() {
        LadderWords x = with("bb");
        due("square", x.square(2), true);
        type(x, "q");
        due("letters alone are no word", x.line(1), 0);
        due("a word came", x.word(), 1);
        dueNoSquare("a word came", x);
        due("found again", x.square(2), true);
        due("line 1", x.line(1), 0);
    }

    // Promise 12: hide

    private static void hideNoWord() {
        LadderWords x = with("ab", "c");
        for (int word : new int[] {-1, 2, 3, 59, 60}) {
            due("word " + word, x.hide(word, 3, 3, 0), false);
        }
        for (int word : OUT) {
            due("word " + word, x.hide(word, 3, 3, 0), false);
        }
        dueEmptyGrid("no word", x);
    }

    private static void hideAtNoCell() {
        for (int direction = 0; direction < 8; direction++) {
            LadderWords x = with("c", "ab");
            for (int word = 0; word <= 1; word++) {
                for (int n = 0; n < 8; n++) {
                    due("x -1", x.hide(word, -1, n, direction), false);
                    due("x 8", x.hide(word, 8, n, direction), false);
                    due("y -1", x.hide(word, n, -1, direction), false);
                    due("y 8", x.hide(word, n, 8, direction), false);
                }
                for (int n : OUT) {
                    due("x " + n, x.hide(word, n, 3, direction), false);
                    due("y " + n, x.hide(word, 3, n, direction), false);
                }
            }
            dueEmptyGrid("no cell", x);
        }
    }

    private static void hideInNoDirection() {
        LadderWords x = with("c", "ab");
        for (int word = 0; word <= 1; word++) {
            due("direction -1", x.hide(word, 3, 3, -1), false);
            due("direction 8", x.hide(word, 3, 3, 8), false);
            for (int n : OUT) {
                due("direction " + n, x.hide(word, 3, 3, n), false);
            }
        }
        dueEmptyGrid("no direction", x);
    }

    private static void hideFrom(int length, int c, int direction) {
        String word = "abcdef".substring(0, length);
        LadderWords x = with(word);
        int endX = c % 8 + (length - 1) * RIGHT[direction];
        int endY = c / 8 + (length - 1) * DOWN[direction];
        boolean inside = endX >= 0 && endX <= 7 && endY >= 0 && endY <= 7;
        due(word + " at " + c + " in " + direction, x.hide(0, c % 8, c / 8, direction), inside);
        char[] grid = ".".repeat(64).toCharArray();
        for (int i = 0; i < length && inside; i++) {
            grid[c + i * (RIGHT[direction] + 8 * DOWN[direction])] = word.charAt(i);
        }
        dueGrid(word + " at " + c + " in " + direction, x, new String(grid));
    }

    private static void hideBeyondTheGrid() {
        for (int length = 1; length <= 6; length++) {
            for (int c = 0; c < 64; c++) {
                for (int direction = 0; direction < 8; direction++) {
                    hideFrom(length, c, direction);
                }
            }
        }
    }

    /** From where on six cells lie within the grid. */
    private static int roomyStart(int step) {
        return step > 0 ? 1 : step < 0 ? 6 : 3;
    }

    private static void hideWhereAnotherLetterIs() {
        for (int i = 0; i < 6; i++) {
            for (int direction = 0; direction < 8; direction++) {
                int startX = roomyStart(RIGHT[direction]);
                int startY = roomyStart(DOWN[direction]);
                LadderWords x = with("abcdef", "q");
                int letterX = startX + i * RIGHT[direction];
                int letterY = startY + i * DOWN[direction];
                due("q at letter " + i, x.hide(1, letterX, letterY, 0), true);
                due("over it in " + direction, x.hide(0, startX, startY, direction), false);
                char[] grid = ".".repeat(64).toCharArray();
                grid[letterX + 8 * letterY] = 'q';
                dueGrid("nothing is put", x, new String(grid));
            }
        }
    }

    private static void hideWhereTheSameLetterIs() {
        LadderWords x = with("abc", "cba", "bbb");
        due("abc", x.hide(0, 2, 3, 0), true);
        due("abc again", x.hide(0, 2, 3, 0), true);
        due("cba over it, from its end", x.hide(1, 4, 3, 4), true);
        due("bbb through its middle", x.hide(2, 3, 2, 2), true);
        due("cba over it, from its beginning", x.hide(1, 2, 3, 0), false);
        due("abc stands as often as it was put", x.found(0), 1);
        due("cba too", x.found(1), 1);
    }

    // Promise 13: fill

    /** The grid with its empty cells filled, by unbounded numbers, so that no wrap-around is taken on trust. */
    private static String filled(String grid, long seed, String all) {
        BigInteger full = BigInteger.ONE.shiftLeft(64);
        BigInteger state = BigInteger.valueOf(seed).mod(full);
        StringBuilder letters = new StringBuilder();
        for (int c = 0; c < 64; c++) {
            char there = grid.charAt(c);
            if (there == '.') {
                state = state.multiply(new BigInteger("6364136223846793005"))
                    .add(new BigInteger("1442695040888963407")).mod(full);
                there = all.charAt(state.shiftRight(33).mod(BigInteger.valueOf(all.length())).intValue());
            }
            letters.append(there);
        }
        return letters.toString();
    }

    private static void fillBy64Bits() {
        for (long seed : new long[] {0, 1, -1, 77, -5, Long.MAX_VALUE, Long.MIN_VALUE, 1L << 32, -1L << 31}) {
            LadderWords x = with("abcdef", "z", "qrs");
            due("fill " + seed, x.fill(seed), 64);
            dueGrid("fill " + seed, x, filled(".".repeat(64), seed, "abcdefzqrs"));
        }
    }

    private static void fillFromOneLetter() {
        LadderWords x = with("k");
        due("fill", x.fill(-9), 64);
        dueGrid("one letter", x, "k".repeat(64));
    }

    private static void fillFromTheMostLetters() {
        LadderWords x = withLongestLadder();
        StringBuilder all = new StringBuilder();
        char[] letters = "aaaaaa".toCharArray();
        for (int w = 0; w < 60; w++) {
            letters[w % 6] += w > 0 ? 1 : 0;
            all.append(letters);
        }
        due("fill", x.fill(123_456_789), 64);
        dueGrid("360 letters", x, filled(".".repeat(64), 123_456_789, all.toString()));
    }

    private static void fillOnlyEmptyCells() {
        LadderWords x = with("abc", "xyz");
        due("abc at the beginning", x.hide(0, 0, 0, 0), true);
        due("xyz down", x.hide(1, 4, 2, 2), true);
        due("abc at the end", x.hide(0, 7, 7, 4), true);
        String before = "abc" + ".".repeat(17) + "x" + ".......y.......z" + ".".repeat(24) + "cba";
        dueGrid("before", x, before);
        due("fill", x.fill(5), 55);
        dueGrid("after", x, filled(before, 5, "abcxyz"));
    }

    private static void fillWhenFull() {
        LadderWords x = with("ab", "c");
        due("all", x.fill(1), 64);
        String grid = filled(".".repeat(64), 1, "abc");
        due("none is empty", x.fill(2), 0);
        due("a word came", add(x, "zzz"), 2);
        due("none is empty still", x.fill(3), 0);
        dueGrid("as before", x, grid);
    }

    private static void fillTheLastEmptyCell() {
        LadderWords x = with("a");
        for (int c = 0; c < 63; c++) {
            due("hide at " + c, x.hide(0, c % 8, c / 8, 0), true);
        }
        due("one is empty", x.fill(1), 1);
        dueGrid("full", x, "a".repeat(64));
    }

    private static void fillWithoutWords() {
        LadderWords x = new LadderWords();
        due("no words", x.fill(1), -1);
        type(x, "abc");
        due("letters alone are no word", x.fill(1), -1);
        dueEmptyGrid("no words", x);
        due("a word came", x.word(), 0);
        due("one word", x.fill(1), 64);
        dueGrid("one word", x, filled(".".repeat(64), 1, "abc"));
    }

    // Promise 14: cell

    private static void cellThatIsEmpty() {
        LadderWords x = with("z");
        due("empty", x.cell(7, 0), 0);
        due("hide", x.hide(0, 7, 0, 0), true);
        due("with a letter", x.cell(7, 0), 'z');
        due("another", x.cell(0, 7), 0);
    }

    private static void cellThatIsNone() {
        LadderWords x = with("a");
        due("fill", x.fill(1), 64);
        for (int n = -1; n <= 8; n++) {
            due("x -1, y " + n, x.cell(-1, n), -1);
            due("x 8, y " + n, x.cell(8, n), -1);
            due("y -1, x " + n, x.cell(n, -1), -1);
            due("y 8, x " + n, x.cell(n, 8), -1);
        }
        for (int n : OUT) {
            due("x " + n, x.cell(n, 0), -1);
            due("y " + n, x.cell(0, n), -1);
            due("both " + n, x.cell(n, n), -1);
        }
    }

    // Promise 15: found

    private static void foundOfOneLetter() {
        for (int c = 0; c < 64; c++) {
            LadderWords x = with("a", "b");
            due("hide at " + c, x.hide(0, c % 8, c / 8, 0), true);
            due("a at " + c, x.found(0), 8);
            due("b nowhere", x.found(1), 0);
        }
    }

    private static void foundAtCellsAndDirections() {
        LadderWords x = with("a", "aa", "aaa", "aaaa", "aaaaa", "aaaaaa", "ab");
        due("on an empty grid", x.found(1), 0);
        for (int c = 0; c < 64; c++) {
            due("hide at " + c, x.hide(0, c % 8, c / 8, 0), true);
        }
        for (int length = 1; length <= 6; length++) {
            int fits = 9 - length;
            int due = length == 1 ? 512 : 4 * 8 * fits + 4 * fits * fits;
            due("length " + length, x.found(length - 1), due);
        }
        due("nowhere", x.found(6), 0);
        LadderWords y = with("aba");
        due("hide", y.hide(0, 2, 2, 3), true);
        due("forth and back", y.found(0), 2);
    }

    private static void foundOfNoWord() {
        LadderWords x = with("ab", "c");
        due("word -1", x.found(-1), -1);
        due("word 1", x.found(1), 0);
        due("word 2", x.found(2), -1);
        for (int n : OUT) {
            due("word " + n, x.found(n), -1);
        }
        LadderWords full = withSixty();
        due("word 59", full.found(59), 0);
        due("word 60", full.found(60), -1);
    }

    // Promise 16: where

    private static void whereFrom0On() {
        LadderWords x = with("ab", "a");
        due("none yet", x.where(0, 0), -1);
        due("in the first cell", x.hide(0, 0, 0, 2), true);
        due("in the last cell", x.hide(0, 7, 7, 5), true);
        due("-1", x.where(0, -1), -1);
        due("the first", x.where(0, 0), 2);
        due("the last", x.where(0, 1), 8 * 63 + 5);
        due("past the last", x.where(0, 2), -1);
        for (int n : OUT) {
            due("place " + n, x.where(0, n), -1);
        }
        for (int k = 0; k < 16; k++) {
            due("of one letter " + k, x.where(1, k), k < 8 ? k : 8 * 63 + k - 8);
        }
        due("of one letter past the last", x.where(1, 16), -1);
    }

    private static void whereInAFullGrid() {
        LadderWords x = with("a");
        due("fill", x.fill(0), 64);
        for (int k = 0; k < 512; k += 7) {
            due("place " + k, x.where(0, k), k);
        }
        due("place 511", x.where(0, 511), 511);
        due("place 512", x.where(0, 512), -1);
    }

    private static void whereByRowsThenDirections() {
        LadderWords x = with("ab");
        due("low on the left", x.hide(0, 0, 5, 7), true);
        due("high on the right", x.hide(0, 7, 1, 4), true);
        due("high on the right, down", x.hide(0, 7, 1, 2), true);
        due("between", x.hide(0, 3, 3, 6), true);
        due("on the left of that row", x.hide(0, 1, 3, 0), true);
        due("how many", x.found(0), 7);
        due("first", x.where(0, 0), 8 * 15 + 2);
        due("second", x.where(0, 1), 8 * 15 + 4);
        due("third", x.where(0, 2), 8 * 25);
        due("fourth", x.where(0, 3), 8 * 25 + 2);
        due("fifth", x.where(0, 4), 8 * 27 + 4);
        due("sixth", x.where(0, 5), 8 * 27 + 6);
        due("seventh", x.where(0, 6), 8 * 40 + 7);
        due("no more", x.where(0, 7), -1);
    }

    private static void whereOfNoWord() {
        LadderWords x = with("a");
        due("fill", x.fill(0), 64);
        due("word -1", x.where(-1, 0), -1);
        due("word 1", x.where(1, 0), -1);
        for (int n : OUT) {
            due("word " + n, x.where(n, 0), -1);
            due("both " + n, x.where(n, n), -1);
        }
    }

    // Promise 17: wipe

    private static void wipeAllCells() {
        LadderWords x = with("ab", "c");
        due("fill", x.fill(8), 64);
        x.wipe();
        dueEmptyGrid("after", x);
        due("found", x.found(1), 0);
        due("where", x.where(1, 0), -1);
        due("another word has room", x.hide(1, 0, 0, 0), true);
        x.wipe();
        due("one letter", x.cell(0, 0), 0);
        due("all are filled anew", x.fill(9), 64);
        dueGrid("anew", x, filled(".".repeat(64), 9, "abc"));
        LadderWords y = new LadderWords();
        y.wipe();
        dueEmptyGrid("a new object", y);
    }

    private static void wipeNothingElse() {
        LadderWords x = with("ab", "bb", "a", "b");
        due("ladder", x.ladder(0, 1, 0), 1);
        due("square", x.square(2), true);
        type(x, "ab");
        due("gather", x.gather(4), 2);
        x.wipe();
        due("step", x.step(1), 1);
        due("ways", x.ways(), 1);
        due("line", x.line(1), 1);
        dueGathered(x, 1, 2, 3);
        due("row", x.word(), 0);
        due("letter", x.letter(3, 0), 'b');
    }

    // Refused calls, beside what their own promise says of them

    /** A ladder, a square and gatherings, found among words of which there are 60 or fewer. */
    private static void findAll(LadderWords x) {
        due("ladder", x.ladder(0, 1, 0), 1);
        due("square", x.square(2), true);
        type(x, "ab");
        due("gather", x.gather(1), 2);
    }

    private static void dueAllFound(String name, LadderWords x) {
        due(name + ": step", x.step(1), 1);
        due(name + ": ways", x.ways(), 1);
        due(name + ": line", x.line(1), 26);
        due(name + ": gathered", x.gathered(1, 0), 52);
    }

    private static void noWordCameByARefusedOne() {
        LadderWords x = withSixty();
        findAll(x);
        type(x, "ababa");
        due("seven letters", x.word(), -1);
        dueAllFound("seven letters", x);
        due("no letters", x.word(), -1);
        dueAllFound("no letters", x);
        due("the 61st", add(x, "zz"), -1);
        dueAllFound("the 61st", x);
    }

    private static void refusedCallsDoNothingElse() {
        LadderWords x = withSixty();
        findAll(x);
        due("hide", x.hide(59, 3, 3, 1), true);
        due("unit", x.unit(96), false);
        due("letter", x.letter(60, 0), -1);
        due("step", x.step(-1), -1);
        due("gather", x.gather(5), -1);
        due("gathered", x.gathered(200, 0), -1);
        due("line", x.line(5), -1);
        due("hide", x.hide(60, 0, 0, 0), false);
        due("cell", x.cell(8, 0), -1);
        due("found", x.found(60), -1);
        due("where", x.where(60, 0), -1);
        dueAllFound("refused", x);
        dueGrid("refused", x, ".".repeat(27) + "b" + ".".repeat(8) + "h" + ".".repeat(27));
        due("the row", x.word(), 27);
    }

    private static void refusedLadderOrSquareIsAlone() {
        LadderWords x = withSixty();
        findAll(x);
        due("ladder", x.ladder(0, 60, 0), -1);
        due("line", x.line(1), 26);
        due("gathered", x.gathered(1, 0), 52);
        due("ladder", x.ladder(0, 1, 0), 1);
        due("square", x.square(6), false);
        due("step", x.step(1), 1);
        due("ways", x.ways(), 1);
        due("gathered", x.gathered(1, 0), 52);
        due("the row", x.word(), 27);
    }

    private static void testRefusedCalls() {
        test("3: -1, and so no word came since (6, 9, 11)", BoundariesOfPromises::noWordCameByARefusedOne);
        test("2, 4, 6, 8, 9, 11, 12, 14 to 16: refused, doing nothing", BoundariesOfPromises::refusedCallsDoNothingElse);
        test("5, 10: none is found then, and nothing else", BoundariesOfPromises::refusedLadderOrSquareIsAlone);
    }

    private static void testPromises1To4() {
        test("1: No words", BoundariesOfPromises::newHasNoWords);
        test("1: the row empty", BoundariesOfPromises::newHasAnEmptyRow);
        test("1: all cells empty", BoundariesOfPromises::newHasEmptyCells);
        test("1: nothing found yet", BoundariesOfPromises::newHasFoundNothing);
        test("2: A letter comes to the row: true", BoundariesOfPromises::unitComes);
        test("2: false, doing nothing, when it is none", BoundariesOfPromises::unitIsNoLetter);
        test("2: false, doing nothing, when there are 12", BoundariesOfPromises::unitWhenThereAre12);
        test("3: that which it had, when there is such a word", BoundariesOfPromises::wordThatThereIs);
        test("3: that which it had, when there are 60", BoundariesOfPromises::wordThatThereIsWhenFull);
        test("3: -1 when the row has no letters", BoundariesOfPromises::wordOfNoLetters);
        test("3: -1 when the row has more than 6", BoundariesOfPromises::wordOfMoreThan6);
        test("3: -1 when it would be the 61st word", BoundariesOfPromises::word61);
        test("3: The row is empty then, in any case", BoundariesOfPromises::rowIsEmptyThen);
        test("4: -1 when there is no such word", BoundariesOfPromises::letterOfNoWord);
        test("4: -1 when there is no such letter", BoundariesOfPromises::letterThatIsNone);
    }

    private static void testPromises5To7() {
        test("5: 0 from a word to itself", BoundariesOfPromises::ladderToItself);
        test("5: -1 when there is none (then none is found)", BoundariesOfPromises::ladderThereIsNone);
        test("5: -1 when no such word (then none is found)", BoundariesOfPromises::ladderOfNoWord);
        test("5: -1 when no such kind (then none is found)", BoundariesOfPromises::ladderOfNoKind);
        test("5: how many steps, the most there can be", BoundariesOfPromises::longestLadder);
        test("6: from 0 on, the first one at 0; -1 when there is none such", BoundariesOfPromises::stepsFrom0On);
        test("6: of the ladder found latest", BoundariesOfPromises::stepOfTheLatestOnly);
        test("6: -1 when a word came since", BoundariesOfPromises::stepWhenAWordCame);
        test("7: 0 without one", BoundariesOfPromises::waysWithoutALadder);
        test("7: How many shortest ladders there are", BoundariesOfPromises::waysOfTheShortestOnly);
    }

    private static void testPromises8To11() {
        test("8: with at most so many words (1 to 4)", BoundariesOfPromises::gatherWithMost1To4);
        test("8: -1, doing nothing, when most is not so", BoundariesOfPromises::gatherWithAnotherMost);
        test("8: The row stays", BoundariesOfPromises::rowStaysAfterGather);
        test("8: At most 200 are kept", BoundariesOfPromises::atMost200AreKept);
        test("8: the first ones, by the numbers of their words in order", BoundariesOfPromises::theFirstOnesInOrder);
        test("8: None, when the row is empty", BoundariesOfPromises::noneWhenTheRowIsEmpty);
        test("9: -1 when there is none such", BoundariesOfPromises::gatheredThatIsNone);
        test("9: of the GATHERINGS kept", BoundariesOfPromises::gatheredOfTheLatestOnly);
        test("9: -1 when a word came since", BoundariesOfPromises::gatheredWhenAWordCame);
        test("10: The least SQUARE of n (2 to 5) is found", BoundariesOfPromises::squareOf2To5);
        test("10: false when n is not so (none is found then)", BoundariesOfPromises::squareOfAnotherN);
        test("10: false when there is none (none is found then)", BoundariesOfPromises::squareThereIsNone);
        test("10: found among all 60 words", BoundariesOfPromises::squareOfTheLastWords);
        test("11: -1 when there is none such", BoundariesOfPromises::lineThatIsNone);
        test("11: of the square found latest", BoundariesOfPromises::lineOfTheLatestOnly);
        test("11: -1 when a word came since", BoundariesOfPromises::lineWhenAWordCame);
    }

    private static void testPromises12And13() {
        test("12: false, doing nothing, when there is no such word", BoundariesOfPromises::hideNoWord);
        test("12: false, doing nothing, when there is no such cell", BoundariesOfPromises::hideAtNoCell);
        test("12: false, doing nothing, when there is no such direction", BoundariesOfPromises::hideInNoDirection);
        test("12: false, doing nothing, when it would go beyond THE GRID", BoundariesOfPromises::hideBeyondTheGrid);
        test("12: false, doing nothing, when another letter is there", BoundariesOfPromises::hideWhereAnotherLetterIs);
        test("12: another letter, not the same", BoundariesOfPromises::hideWhereTheSameLetterIs);
        test("13: each time X becomes .. (64 bits), the upper 31 bits", BoundariesOfPromises::fillBy64Bits);
        test("13: modulo how many there are: one letter", BoundariesOfPromises::fillFromOneLetter);
        test("13: modulo how many there are: 360 letters", BoundariesOfPromises::fillFromTheMostLetters);
        test("13: All empty cells get letters, in order", BoundariesOfPromises::fillOnlyEmptyCells);
        test("13: How many were empty: none", BoundariesOfPromises::fillWhenFull);
        test("13: How many were empty: the last one", BoundariesOfPromises::fillTheLastEmptyCell);
        test("13: -1, doing nothing, when there are no words", BoundariesOfPromises::fillWithoutWords);
    }

    private static void testPromises14To17() {
        test("14: 0 when it is empty", BoundariesOfPromises::cellThatIsEmpty);
        test("14: -1 when there is none", BoundariesOfPromises::cellThatIsNone);
        test("15: one of one letter in all eight of them", BoundariesOfPromises::foundOfOneLetter);
        test("15: At how many cells and directions", BoundariesOfPromises::foundAtCellsAndDirections);
        test("15: -1 when there is no such word", BoundariesOfPromises::foundOfNoWord);
        test("16: from 0 on; -1 when there is none", BoundariesOfPromises::whereFrom0On);
        test("16: -1 when there is none, in a full grid", BoundariesOfPromises::whereInAFullGrid);
        test("16: by rows of cells, then directions", BoundariesOfPromises::whereByRowsThenDirections);
        test("16: -1 when there is no such word", BoundariesOfPromises::whereOfNoWord);
        test("17: All cells are empty", BoundariesOfPromises::wipeAllCells);
        test("17: and nothing else", BoundariesOfPromises::wipeNothingElse);
    }

    public static void main(String[] args) {
        testPromises1To4();
        testPromises5To7();
        testPromises8To11();
        testPromises12And13();
        testPromises14To17();
        testRefusedCalls();
        System.out.println(tests + " sentences, " + (wrong == 0 ? "all answers are as due" : wrong + " answers are not"));
        if (wrong != 0) {
            System.exit(1);
        }
    }
}
