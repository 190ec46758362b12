/** The boundary cases of 'What it is' and of 'Terms': a test of its own for each sentence that names one. */
public final class BoundariesOfTerms {
    private static final int[] FAR = {Integer.MIN_VALUE, Integer.MIN_VALUE + 97, -65_536 + 97, -256 + 97, -97,
        256 + 97, 65_536 + 97, (1 << 30) + 97, Integer.MAX_VALUE};
    private static final String[] SQUARE = {"heart", "ember", "abuse", "resin", "trend"};
    private static String sentence = "";
    private static int tests = 0;
    private static int wrong = 0;

    private static void test(String words, Runnable body) {
        sentence = words;
        tests++;
        try {
            body.run();
        } catch (RuntimeException thrown) {
            wrong++;
            System.out.println("[" + sentence + "] the machine threw " + thrown);
        }
    }

    private static void due(String call, long got, long want) {
        if (got != want) {
            wrong++;
            System.out.println("[" + sentence + "] " + call + " answered " + got + ", due is " + want);
        }
    }

    private static void due(String call, boolean got, boolean want) {
        due(call, got ? 1 : 0, want ? 1 : 0);
    }

    private static void type(LadderWords x, String letters) {
        for (int i = 0; i < letters.length(); i++) {
            due("unit " + i + " of " + letters, x.unit(letters.charAt(i)), true);
        }
    }

    private static int add(LadderWords x, String letters) {
        type(x, letters);
        return x.word();
    }

    private static LadderWords with(String... words) {
        LadderWords x = new LadderWords();
        for (int w = 0; w < words.length; w++) {
            due("word " + words[w], add(x, words[w]), w);
        }
        return x;
    }

    /** a to z, then aa to az, then ba to bh: sixty words in 154 calls. */
    private static LadderWords withSixty() {
        LadderWords x = new LadderWords();
        for (int w = 0; w < 60; w++) {
            String last = "" + (char) ('a' + w % 26);
            due("word " + w, add(x, w < 26 ? last : (char) ('a' + w / 26 - 1) + last), w);
        }
        return x;
    }

    private static void dueLadder(LadderWords x, int from, int to, int kind, int... rungs) {
        String call = "ladder " + from + ", " + to + ", " + kind;
        due(call, x.ladder(from, to, kind), rungs.length - 1);
        for (int k = 0; k < rungs.length; k++) {
            due(call + ": step " + k, x.step(k), rungs[k]);
        }
        due(call + ": step past the end", x.step(rungs.length), -1);
    }

    private static void dueSteps(String from, String to, int kind, int steps) {
        LadderWords x = with(from, to);
        due(from + " to " + to + ", kind " + kind, x.ladder(0, 1, kind), steps);
        due(to + " to " + from + ", kind " + kind, x.ladder(1, 0, kind), steps);
    }

    private static void dueGatherings(LadderWords x, String row, int most, int count) {
        type(x, row);
        due("gather " + most + " of " + row, x.gather(most), count);
    }

    private static void dueLines(LadderWords x, int... lines) {
        due("square " + lines.length, x.square(lines.length), true);
        for (int i = 0; i < lines.length; i++) {
            due("line " + i + " of " + lines.length, x.line(i), lines[i]);
        }
    }

    // What it is

    /** Sixty words, a ladder, a square, gatherings, a row of two and one cell taken, in 511 calls. */
    private static LadderWords after511Calls() {
        LadderWords x = withSixty();
        x.ladder(0, 25, 0);
        x.square(2);
        type(x, "ab");
        x.gather(2);
        x.hide(0, 7, 7, 0);
        for (int calls = 161; calls <= 511; calls++) {
            due("cell as call " + calls, x.cell(8, 8), -1);
        }
        return x;
    }

    private static void the512thCall() {
        due("unit", after511Calls().unit('z'), true);
        due("word", after511Calls().word(), 27);
        due("letter", after511Calls().letter(59, 1), 'h');
        due("ladder", after511Calls().ladder(26, 52, 0), 1);
        due("step", after511Calls().step(1), 25);
        due("ways", after511Calls().ways(), 1);
        due("gather", after511Calls().gather(1), 2);
        due("gathered", after511Calls().gathered(0, 1), 1);
        due("square", after511Calls().square(3), false);
        due("line", after511Calls().line(1), 26);
        due("hide", after511Calls().hide(1, 0, 7, 0), true);
        due("fill", after511Calls().fill(1), 63);
        due("cell", after511Calls().cell(7, 7), 'a');
        due("found", after511Calls().found(0), 8);
        due("where", after511Calls().where(0, 7), 511);
        after511Calls().wipe();
    }

    // The row

    private static void rowUpTo12() {
        LadderWords x = with("aaaaaa");
        for (int i = 0; i < 12; i++) {
            due("letter " + i, x.unit('a'), true);
        }
        due("the thirteenth letter", x.unit('a'), false);
        due("twelve letters", x.gather(2), 1);
    }

    private static void rowOfLettersAToZ() {
        for (int u = -600; u <= 600; u++) {
            due("unit " + u, new LadderWords().unit(u), u >= 97 && u <= 122);
        }
        for (int u : FAR) {
            due("unit " + u, new LadderWords().unit(u), false);
        }
    }

    // Words

    private static void numberedAsTheyCame() {
        LadderWords x = with("zz", "a", "m");
        due("first letter of 0", x.letter(0, 0), 'z');
        due("first letter of 1", x.letter(1, 0), 'a');
        due("first letter of 2", x.letter(2, 0), 'm');
    }

    private static void atMost60() {
        LadderWords x = withSixty();
        due("the 60th is there", x.letter(59, 1), 'h');
        due("the 61st", add(x, "bi"), -1);
        due("the 61st is not there", x.letter(60, 0), -1);
        due("nor another", add(x, "zzzzzz"), -1);
        due("the 60th stays", x.letter(59, 1), 'h');
        due("the first stays", x.letter(0, 0), 'a');
    }

    private static void of1To6Letters() {
        due("no letters", new LadderWords().word(), -1);
        for (int n = 1; n <= 12; n++) {
            LadderWords x = new LadderWords();
            due(n + " letters", add(x, "abcdefghijkl".substring(0, n)), n <= 6 ? 0 : -1);
            due("the last of " + n, x.letter(0, n - 1), n <= 6 ? 'a' + n - 1 : -1);
            due("past the last of " + n, x.letter(0, n), -1);
        }
    }

    private static void noTwoTheSame() {
        String[] words = {"a", "b", "ab", "ba", "aa", "aab", "aba", "abcdef", "abcdeg", "bbcdef", "abcde", "bcdef"};
        LadderWords x = with(words);
        for (int w = 0; w < words.length; w++) {
            due(words[w] + " again", add(x, words[w]), w);
        }
        due("no more words than these", x.letter(words.length, 0), -1);
    }

    // Steps and ladders

    private static void justOneDiffers() {
        for (int i = 0; i < 6; i++) {
            dueSteps("abcdef", "abcdef".substring(0, i) + "q" + "abcdef".substring(i + 1), 0, 1);
        }
        dueSteps("a", "z", 0, 1);
        dueSteps("ab", "ba", 0, -1);
        dueSteps("abcdef", "qbcdeq", 0, -1);
        dueSteps("abcdef", "bcdefa", 0, -1);
    }

    private static void ofAsManyLetters() {
        dueSteps("abc", "abcd", 0, -1);
        dueSteps("abc", "aabc", 0, -1);
        dueSteps("a", "ab", 0, -1);
        dueSteps("abcdef", "abcde", 0, -1);
    }

    private static void kind1HasSuchOnesToo() {
        for (int i = 0; i < 6; i++) {
            dueSteps("abcdef", "abcdef".substring(0, i) + "q" + "abcdef".substring(i + 1), 1, 1);
        }
        dueSteps("a", "z", 1, 1);
        dueSteps("ab", "ba", 1, -1);
        dueSteps("abcdef", "bcdefa", 1, -1);
    }

    private static void oneLetterMoreOrLess() {
        for (int i = 0; i <= 5; i++) {
            for (char more : new char[] {'a', 'b', 'd', 'f', 'q'}) {
                dueSteps("bcdef", "bcdef".substring(0, i) + more + "bcdef".substring(i), 1, 1);
            }
        }
        dueSteps("a", "ab", 1, 1);
        dueSteps("a", "ba", 1, 1);
        dueSteps("aaaaa", "aaaaaa", 1, 1);
        dueSteps("aab", "aaab", 1, 1);
        dueSteps("ab", "abcd", 1, -1);
        dueSteps("ab", "cabd", 1, -1);
        dueSteps("a", "aaaaaa", 1, -1);
    }

    private static void othersTheSameInTheirOrder() {
        dueSteps("abc", "acbd", 1, -1);
        dueSteps("abc", "abde", 1, -1);
        dueSteps("abc", "dcba", 1, -1);
        dueSteps("ab", "bca", 1, -1);
        dueSteps("a", "bc", 1, -1);
        dueSteps("abcde", "qabcdq", 1, -1);
        dueSteps("aabb", "ababa", 1, -1);
    }

    private static void theShorterTheFewerSteps() {
        LadderWords x = with("aa", "bb", "ca", "cb", "ab");
        dueLadder(x, 0, 1, 0, 0, 4, 1);
        LadderWords y = with("a", "aaaa", "b", "bb", "bbb", "bbba", "abba", "aaba", "aa", "aaa");
        dueLadder(y, 0, 1, 1, 0, 8, 9, 1);
    }

    private static void theLesserNumberWhereTheyDiffer() {
        LadderWords early = with("aaa", "bbb", "baa", "aab", "abb", "bba");
        dueLadder(early, 0, 1, 0, 0, 2, 5, 1);
        dueLadder(early, 1, 0, 0, 1, 4, 3, 0);
        LadderWords late = with("aaa", "bbb", "bab", "baa", "bba");
        dueLadder(late, 0, 1, 0, 0, 3, 2, 1);
    }

    // Gatherings

    private static void byRisingNumbers() {
        LadderWords x = with("b", "a", "ba");
        dueGatherings(x, "ab", 4, 2);
        due("first of the first", x.gathered(0, 0), 0);
        due("second of the first", x.gathered(0, 1), 1);
        due("the second", x.gathered(1, 0), 2);
    }

    private static void theSameMoreThanOnce() {
        for (int n = 1; n <= 5; n++) {
            LadderWords x = with("ab");
            dueGatherings(x, "ababababab".substring(0, 2 * n), 4, n <= 4 ? 1 : 0);
            for (int i = 0; i < 5; i++) {
                due("word " + i + " of " + n, x.gathered(0, i), n <= 4 && i < n ? 0 : -1);
            }
        }
    }

    private static void justTheseLetters() {
        dueGatherings(with("ab"), "abc", 4, 0);
        dueGatherings(with("abc"), "ab", 4, 0);
        dueGatherings(with("ab", "c"), "ab", 4, 1);
        dueGatherings(with("ab", "d"), "abc", 4, 0);
    }

    private static void eachAsOften() {
        dueGatherings(with("aab"), "ab", 4, 0);
        dueGatherings(with("ab"), "aab", 4, 0);
        dueGatherings(with("ab", "abb"), "aabb", 4, 1);
        dueGatherings(with("aaaaaa", "aaaaa", "aaaa"), "aaaaaaaaaaaa", 4, 2);
        dueGatherings(with("aaaaaa", "aaaaa", "aaaa"), "aaaaaaaaaaa", 4, 1);
        dueGatherings(with("abcdef", "ghijkl", "ghijkk"), "lkjihgfedcba", 4, 1);
    }

    // Squares

    private static void wordsOfNLetters() {
        dueLines(with("aaa", "a", "aa", "aaaaaa"), 2, 2);
        due("of 3 without one of 3", with("aa", "aaaa").square(3), false);
        due("of 4 without one of 4", with("aaa", "aaaaa").square(4), false);
    }

    private static void needNotBeDifferent() {
        dueLines(with("aa"), 0, 0);
        dueLines(with("aaa"), 0, 0, 0);
        dueLines(with("aaaa"), 0, 0, 0, 0);
        dueLines(with("aaaaa"), 0, 0, 0, 0, 0);
        dueLines(with("bab", "aba"), 0, 1, 0);
    }

    private static void forAllIAndJ() {
        for (int i = 0; i < 5; i++) {
            for (int j = 0; j < 5; j++) {
                String[] words = SQUARE.clone();
                words[i] = words[i].substring(0, j) + "q" + words[i].substring(j + 1);
                due("another letter " + j + " in line " + i, with(words).square(5), i == j);
            }
        }
    }

    private static void theLessSquare() {
        dueLines(with("ba", "ab", "aa"), 0, 1);
        dueLines(with("ab", "bb", "ba", "aa"), 0, 1);
        dueLines(with("abc", "cde", "bzd", "cda", "bcd"), 0, 2, 1);
        dueLines(with("cda", "abc", "bzd", "cde"), 1, 2, 0);
    }

    // The grid

    private static void eightByEight() {
        LadderWords x = new LadderWords();
        for (int cx = -1; cx <= 8; cx++) {
            for (int cy = -1; cy <= 8; cy++) {
                boolean inside = cx >= 0 && cx <= 7 && cy >= 0 && cy <= 7;
                due("cell " + cx + ", " + cy, x.cell(cx, cy), inside ? 0 : -1);
            }
        }
    }

    private static void eachWithALetterOrEmpty() {
        LadderWords x = withSixty();
        for (int c = 0; c < 64; c += 2) {
            due("hide at " + c, x.hide(c % 25, c % 8, c / 8, 0), true);
        }
        for (int c = 0; c < 64; c++) {
            due("cell " + c, x.cell(c % 8, c / 8), c % 2 == 0 ? 'a' + c % 25 : 0);
        }
    }

    private static void dueDirection(int direction, int right, int down) {
        LadderWords x = with("ab");
        due("hide in " + direction, x.hide(0, 3, 4, direction), true);
        due("the first of " + direction, x.cell(3, 4), 'a');
        due("the second of " + direction, x.cell(3 + right, 4 + down), 'b');
        due("found in " + direction, x.found(0), 1);
        due("where in " + direction, x.where(0, 0), 8 * (3 + 8 * 4) + direction);
    }

    private static void directions() {
        dueDirection(0, 1, 0);
        dueDirection(1, 1, 1);
        dueDirection(2, 0, 1);
        dueDirection(3, -1, 1);
        dueDirection(4, -1, 0);
        dueDirection(5, -1, -1);
        dueDirection(6, 0, -1);
        dueDirection(7, 1, -1);
    }

    private static void noOtherDirection() {
        for (int direction : new int[] {-1, 8, -8, 9, 16, -7, 64, 256, Integer.MIN_VALUE, Integer.MAX_VALUE}) {
            due("hide in " + direction, with("ab").hide(0, 3, 4, direction), false);
        }
    }

    private static void standsWhenItsLettersAreThere() {
        LadderWords x = with("abc", "a", "b", "c", "abcd", "bb");
        due("abc", x.hide(0, 2, 2, 0), true);
        due("it stands", x.found(0), 1);
        due("the last cell is empty", x.found(4), 0);
        due("the first cell is another", x.found(5), 0);
        due("c after it", x.hide(3, 5, 2, 0), true);
        due("the last letter is another", x.found(4), 0);
        due("nothing else stands", x.where(0, 1), -1);
    }

    private static boolean isBeside(int c, int other) {
        return Math.abs(c % 8 - other % 8) <= 1 && Math.abs(c / 8 - other / 8) <= 1;
    }

    /** Only an a at cell c, and b wherever a step over the edge could come in again. */
    private static void standsOnlyWithinTheGrid() {
        for (int c = 0; c < 64; c++) {
            LadderWords x = with("ab", "a", "b");
            for (int other = 0; other < 64; other++) {
                if (other == c || !isBeside(c, other)) {
                    due("hide at " + other, x.hide(other == c ? 1 : 2, other % 8, other / 8, 0), true);
                }
            }
            due("ab from " + c, x.found(0), 0);
            int beside = (c % 8 % 7 == 0 ? 2 : 3) * (c / 8 % 7 == 0 ? 2 : 3) - 1;
            for (int other = 0; other < 64; other++) {
                if (other != c && isBeside(c, other)) {
                    due("hide at " + other, x.hide(2, other % 8, other / 8, 0), true);
                }
            }
            due("ab from " + c + " to all beside it", x.found(0), beside);
        }
    }

    public static void main(String[] args) {
        test("used for at most 512 calls", BoundariesOfTerms::the512thCall);
        test("THE ROW is up to 12 letters", BoundariesOfTerms::rowUpTo12);
        test("letters a to z (bytes 97 to 122)", BoundariesOfTerms::rowOfLettersAToZ);
        test("WORDS are numbered from 0 on as they came", BoundariesOfTerms::numberedAsTheyCame);
        test("WORDS: at most 60", BoundariesOfTerms::atMost60);
        test("WORDS: of 1 to 6 letters each", BoundariesOfTerms::of1To6Letters);
        test("WORDS: no two the same", BoundariesOfTerms::noTwoTheSame);
        test("STEP: of which just one differs (kind 0)", BoundariesOfTerms::justOneDiffers);
        test("STEP: of as many letters (kind 0)", BoundariesOfTerms::ofAsManyLetters);
        test("STEP: (kind 1) such a one", BoundariesOfTerms::kind1HasSuchOnesToo);
        test("STEP: one letter more somewhere, or one letter less", BoundariesOfTerms::oneLetterMoreOrLess);
        test("STEP: all others being the same in their order", BoundariesOfTerms::othersTheSameInTheirOrder);
        test("LADDER: it is the shorter the fewer steps", BoundariesOfTerms::theShorterTheFewerSteps);
        test("LADDER: the lesser number at the first place where they differ",
            BoundariesOfTerms::theLesserNumberWhereTheyDiffer);
        test("GATHERING: a row of words, by rising numbers", BoundariesOfTerms::byRisingNumbers);
        test("GATHERING: the same one more than once, too", BoundariesOfTerms::theSameMoreThanOnce);
        test("GATHERING: together just these letters", BoundariesOfTerms::justTheseLetters);
        test("GATHERING: each as often", BoundariesOfTerms::eachAsOften);
        test("SQUARE: n words of n letters each", BoundariesOfTerms::wordsOfNLetters);
        test("SQUARE: not need be different", BoundariesOfTerms::needNotBeDifferent);
        test("SQUARE: for all i and j", BoundariesOfTerms::forAllIAndJ);
        test("SQUARE: the lesser number at the first place where they differ", BoundariesOfTerms::theLessSquare);
        test("THE GRID has 8 by 8 CELLS", BoundariesOfTerms::eightByEight);
        test("CELLS: each with a letter or empty", BoundariesOfTerms::eachWithALetterOrEmpty);
        test("DIRECTIONS: 0 to the right, then on by an eighth of a turn each", BoundariesOfTerms::directions);
        test("DIRECTIONS: 0 to 7 and no other", BoundariesOfTerms::noOtherDirection);
        test("STANDS: its letters are those of THE GRID", BoundariesOfTerms::standsWhenItsLettersAreThere);
        test("STANDS: from there on cell by cell", BoundariesOfTerms::standsOnlyWithinTheGrid);
        System.out.println(tests + " sentences, " + (wrong == 0 ? "all answers are as due" : wrong + " answers are not"));
        if (wrong != 0) {
            System.exit(1);
        }
    }
}
