/** One test a promise of the document: ordinary inputs, the edges that it names, and wrong inputs. */
public final class PromiseTests {
    private static final int[] WRONG = {Integer.MIN_VALUE, Integer.MIN_VALUE + 1, -1_000_000, -2, -1,
        60, 61, 64, 199, 200, 1 << 29, 1 << 30, Integer.MAX_VALUE - 5, Integer.MAX_VALUE};
    private static int wrong = 0;

    private static void due(String call, long got, long want) {
        if (got != want) {
            wrong++;
            System.out.println(call + " answered " + got + ", due is " + want);
        }
    }

    private static void due(String call, boolean got, boolean want) {
        due(call, got ? 1 : 0, want ? 1 : 0);
    }

    private static void type(LadderWords x, String letters) {
        for (int i = 0; i < letters.length(); i++) {
            due("unit in " + letters, x.unit(letters.charAt(i)), true);
        }
    }

    private static int add(LadderWords x, String letters) {
        type(x, letters);
        return x.word();
    }

    private static LadderWords with(String... words) {
        LadderWords x = new LadderWords();
        for (int w = 0; w < words.length; w++) {
            due("word " + words[w], add(x, words[w]), w);
        }
        return x;
    }

    private static void dueLadder(String name, LadderWords x, long ways, int... rungs) {
        for (int k = 0; k < rungs.length; k++) {
            due(name + " step " + k, x.step(k), rungs[k]);
        }
        due(name + " step past the end", x.step(rungs.length), -1);
        due(name + " step -1", x.step(-1), -1);
        due(name + " ways", x.ways(), ways);
    }

    private static void dueGathered(String name, LadderWords x, int k, int... words) {
        for (int i = 0; i < words.length; i++) {
            due(name + " gathered " + k + ", " + i, x.gathered(k, i), words[i]);
        }
        due(name + " gathered past the end of " + k, x.gathered(k, words.length), -1);
        due(name + " gathered before " + k, x.gathered(k, -1), -1);
    }

    private static void dueLines(String name, LadderWords x, int... lines) {
        for (int i = 0; i < lines.length; i++) {
            due(name + " line " + i, x.line(i), lines[i]);
        }
        due(name + " line past the end", x.line(lines.length), -1);
        due(name + " line -1", x.line(-1), -1);
    }

    private static void dueEmptyGrid(String name, LadderWords x) {
        for (int c = 0; c < 64; c++) {
            due(name + " cell " + c, x.cell(c % 8, c / 8), 0);
        }
    }

    private static void promise1NewObject() {
        LadderWords x = new LadderWords();
        due("1 no word", x.letter(0, 0), -1);
        due("1 empty row", x.word(), -1);
        due("1 step", x.step(0), -1);
        due("1 ways", x.ways(), 0);
        due("1 gathered", x.gathered(0, 0), -1);
        due("1 line", x.line(0), -1);
        due("1 found", x.found(0), -1);
        due("1 where", x.where(0, 0), -1);
        due("1 ladder", x.ladder(0, 0, 0), -1);
        due("1 gather", x.gather(4), 0);
        due("1 square", x.square(2), false);
        due("1 hide", x.hide(0, 0, 0, 0), false);
        due("1 fill", x.fill(0), -1);
        dueEmptyGrid("1", x);
        LadderWords other = with("ab");
        due("1 another object has its own words", x.letter(0, 0), -1);
        due("1 the other's word", other.letter(0, 1), 'b');
    }

    private static void promise2Unit() {
        LadderWords x = new LadderWords();
        for (int u : new int[] {96, 123, 0, 65, 90, -97, 97 + 256, 97 + 65536, Integer.MIN_VALUE, Integer.MAX_VALUE}) {
            due("2 unit " + u, x.unit(u), false);
        }
        due("2 nothing came", x.word(), -1);
        due("2 a", x.unit(97), true);
        due("2 z", x.unit(122), true);
        due("2 none between", x.unit(123), false);
        due("2 word az", x.word(), 0);
        due("2 a first", x.letter(0, 0), 97);
        due("2 z second", x.letter(0, 1), 122);
        due("2 two letters", x.letter(0, 2), -1);
        type(x, "azazazazazaz");
        due("2 thirteenth", x.unit('a'), false);
        due("2 thirteenth no letter", x.unit(0), false);
        due("2 all twelve are there", x.word(), -1);
        due("2 room again", x.unit('a'), true);
    }

    private static void promise3Word() {
        LadderWords x = with("abcdef", "a");
        type(x, "abcdefg");
        due("3 seven letters", x.word(), -1);
        due("3 row empty after that", x.word(), -1);
        due("3 known word", add(x, "abcdef"), 0);
        due("3 row empty after known", x.word(), -1);
        due("3 longer than a known one", add(x, "ab"), 2);
        due("3 other order", add(x, "ba"), 3);
        due("3 row empty after new", x.word(), -1);
        LadderWords full = new LadderWords();
        for (int w = 0; w < 60; w++) {
            due("3 word " + w, add(full, "" + (char) ('a' + w / 26) + (char) ('a' + w % 26)), w);
        }
        due("3 61st", add(full, "zz"), -1);
        due("3 row empty after 61st", full.word(), -1);
        due("3 61st is not there", full.letter(60, 0), -1);
        due("3 known when full", add(full, "ch"), 59);
        due("3 known when full, first", add(full, "aa"), 0);
    }

    private static void promise4Letter() {
        LadderWords x = with("cat", "o", "houses");
        String[] words = {"cat", "o", "houses"};
        for (int w = 0; w < 3; w++) {
            for (int i = 0; i < words[w].length(); i++) {
                due("4 letter", x.letter(w, i), words[w].charAt(i));
            }
            due("4 past the end", x.letter(w, words[w].length()), -1);
        }
        due("4 no fourth word", x.letter(3, 0), -1);
        for (int n : WRONG) {
            due("4 word " + n, x.letter(n, 0), -1);
            due("4 letter " + n, x.letter(1, n), -1);
            due("4 both " + n, x.letter(n, n), -1);
        }
        LadderWords full = new LadderWords();
        for (int w = 0; w < 60; w++) {
            add(full, "abcd" + (char) ('a' + w / 26) + (char) ('a' + w % 26));
        }
        due("4 last letter of the last of the longest words", full.letter(59, 5), 'h');
        due("4 past it", full.letter(59, 6), -1);
    }

    private static void promise5Ladder() {
        LadderWords x = with("cat", "cot", "dog", "cog", "cats", "at", "a", "to", "dot", "tac", "t");
        due("5 cat dog", x.ladder(0, 2, 0), 3);
        due("5 one step", x.ladder(0, 1, 0), 1);
        due("5 itself", x.ladder(4, 4, 0), 0);
        due("5 itself kind 1", x.ladder(9, 9, 1), 0);
        due("5 none", x.ladder(4, 6, 0), -1);
        due("5 letters added and left out", x.ladder(4, 6, 1), 3);
        due("5 back", x.ladder(6, 4, 1), 3);
        due("5 same letters in another order", x.ladder(0, 9, 1), -1);
        due("5 a letter in front", x.ladder(10, 5, 1), 1);
        due("5 a letter at the end", x.ladder(6, 5, 1), 1);
        due("5 by way of another", x.ladder(6, 7, 1), 2);
        due("5 no kind 2", x.ladder(0, 0, 2), -1);
        due("5 no kind -1", x.ladder(0, 0, -1), -1);
        due("5 no word 11", x.ladder(11, 11, 0), -1);
        for (int n : WRONG) {
            due("5 from " + n, x.ladder(n, 0, 0), -1);
            due("5 to " + n, x.ladder(0, n, 1), -1);
            due("5 kind " + n, x.ladder(0, 1, n), -1);
        }
        LadderWords y = with("abc", "ac", "abbc", "aabc", "abdc", "acbc", "abcabc", "abca");
        due("5 in the middle", y.ladder(1, 0, 1), 1);
        due("5 doubled letter", y.ladder(0, 2, 1), 1);
        due("5 doubled first letter", y.ladder(3, 0, 1), 1);
        due("5 another letter more", y.ladder(0, 4, 1), 1);
        due("5 before its like", y.ladder(0, 5, 1), 1);
        due("5 two letters more are no step", y.ladder(1, 2, 1), 2);
        due("5 two letters of four more are no step", y.ladder(7, 6, 1), -1);
    }

    private static void promise6Step() {
        LadderWords x = with("cat", "cot", "dog", "cog", "dot");
        due("6 before any", x.step(0), -1);
        x.ladder(0, 2, 0);
        dueLadder("6 least of two", x, 2, 0, 1, 3, 2);
        x.ladder(2, 0, 0);
        dueLadder("6 back", x, 2, 2, 3, 1, 0);
        x.ladder(3, 3, 0);
        dueLadder("6 itself", x, 1, 3);
        x.ladder(0, 2, 0);
        for (int n : WRONG) {
            due("6 step " + n, x.step(n), -1);
        }
        add(x, "cot");
        due("6 a known word is none that came", x.step(3), 2);
        type(x, "toolong");
        x.word();
        x.word();
        due("6 no word came", x.step(3), 2);
        add(x, "zzz");
        due("6 a word came", x.step(0), -1);
        due("6 found again", x.ladder(0, 2, 0), 3);
        due("6 step again", x.step(1), 1);
        due("6 none", x.ladder(0, 5, 0), -1);
        due("6 step of none", x.step(0), -1);
        x.ladder(0, 2, 0);
        x.ladder(0, 2, 7);
        due("6 step of no kind", x.step(0), -1);
        x.ladder(0, 2, 0);
        x.ladder(-1, 2, 0);
        due("6 step of no word", x.step(0), -1);
        LadderWords y = with("aaa", "bbb", "abb", "baa", "aab", "bab", "aba", "bba");
        y.ladder(0, 1, 0);
        dueLadder("6 the first place tells", y, 6, 0, 3, 5, 1);
    }

    private static void promise7Ways() {
        LadderWords x = with("aaa", "bbb", "aab", "aba", "baa", "abb", "bab", "bba", "zzz");
        due("7 before any", x.ways(), 0);
        x.ladder(0, 1, 0);
        due("7 six", x.ways(), 6);
        x.ladder(0, 5, 0);
        due("7 two", x.ways(), 2);
        x.ladder(0, 2, 0);
        due("7 one", x.ways(), 1);
        x.ladder(0, 8, 0);
        due("7 none", x.ways(), 0);
        x.ladder(8, 8, 1);
        due("7 itself", x.ways(), 1);
        x.ladder(0, 0, 2);
        due("7 no kind", x.ways(), 0);
        x.ladder(0, 1, 1);
        add(x, "aaz");
        due("7 stays when a word came", x.ways(), 6);
        due("7 but no step", x.step(0), -1);
        x.ladder(9, 99, 0);
        due("7 no word", x.ways(), 0);
        LadderWords y = with("aa", "ab", "a", "b", "ba", "aab");
        y.ladder(0, 3, 1);
        due("7 by longer and shorter ones", y.ways(), 3);
    }

    private static void promise8Gather() {
        LadderWords x = with("a", "b", "ab", "ba", "aab", "c");
        due("8 empty row", x.gather(4), 0);
        type(x, "baa");
        due("8 most 1", x.gather(1), 1);
        due("8 most 2", x.gather(2), 3);
        due("8 most 3", x.gather(3), 4);
        due("8 most 4", x.gather(4), 4);
        for (int n : new int[] {0, 5, -1, Integer.MIN_VALUE, Integer.MAX_VALUE}) {
            due("8 most " + n, x.gather(n), -1);
        }
        due("8 wrong most does nothing", x.gathered(3, 0), 4);
        due("8 the row stays", x.word(), 6);
        type(x, "ccccc");
        due("8 five words are too many", x.gather(4), 0);
        due("8 row of five stays", x.word(), 7);
        type(x, "aaaaaaaaaaaa");
        due("8 twelve letters", x.gather(4), 0);
        x.word();
        add(x, "aaa");
        type(x, "aaaaaaaaaaaa");
        due("8 the same word four times", x.gather(4), 1);
        dueGathered("8 four times", x, 0, 8, 8, 8, 8);
        x.word();
        type(x, "d");
        due("8 a letter of no word", x.gather(4), 0);
        x.unit('a');
        due("8 a letter is left", x.gather(4), 0);
        LadderWords y = with("abcdef", "ghijkl", "fedcba");
        type(y, "lakbjcidhegf");
        due("8 twelve different letters", y.gather(2), 2);
    }

    private static LadderWords manyGatherings() {
        LadderWords x = new LadderWords();
        for (int w = 0; w < 24; w++) {
            add(x, PERMUTATIONS[w]);
        }
        type(x, "abcdabcdabcd");
        return x;
    }

    private static final String[] PERMUTATIONS = {"abcd", "abdc", "acbd", "acdb", "adbc", "adcb",
        "bacd", "badc", "bcad", "bcda", "bdac", "bdca", "cabd", "cadb", "cbad", "cbda", "cdab", "cdba",
        "dabc", "dacb", "dbac", "dbca", "dcab", "dcba"};

    private static void promise9Gathered() {
        LadderWords x = with("a", "b", "ab", "ba", "aab");
        type(x, "aab");
        x.gather(3);
        dueGathered("9", x, 0, 0, 0, 1);
        dueGathered("9", x, 1, 0, 2);
        dueGathered("9", x, 2, 0, 3);
        dueGathered("9", x, 3, 4);
        dueGathered("9 none", x, 4);
        dueGathered("9 none", x, -1);
        for (int n : WRONG) {
            due("9 gathering " + n, x.gathered(n, 0), -1);
            due("9 word " + n, x.gathered(0, n), -1);
            due("9 both " + n, x.gathered(n, n), -1);
        }
        x.gather(5);
        due("9 kept after a wrong most", x.gathered(0, 2), 1);
        x.unit('z');
        due("9 kept when the row grows", x.gathered(3, 0), 4);
        x.word();
        due("9 a word came", x.gathered(0, 0), -1);
        due("9 none of an empty row", x.gather(2), 0);
        due("9 none kept", x.gathered(0, 0), -1);
        type(x, "aab");
        x.gather(1);
        dueGathered("9 one", x, 0, 4);
        dueGathered("9 no second", x, 1);
        due("9 a known word", x.word(), 4);
        due("9 a known word is none that came", x.gathered(0, 0), 4);
        LadderWords y = manyGatherings();
        due("9 three of 24", y.gather(3), 2600);
        int k = 0;
        for (int a = 0; a < 24; a++) {
            for (int b = a; b < 24; b++) {
                for (int c = b; c < 24 && k <= 200; c++) {
                    if (k == 200) {
                        dueGathered("9 beyond 200", y, k);
                    } else if (k % 10 == 9) {
                        dueGathered("9 many", y, k, a, b, c);
                    }
                    k++;
                }
            }
        }
    }

    private static void promise10Square() {
        LadderWords x = with("bit", "ice", "ten", "aa", "ab", "ba");
        due("10 of 3", x.square(3), true);
        due("10 of 2", x.square(2), true);
        due("10 of 4", x.square(4), false);
        for (int n : new int[] {1, 0, -1, 6, Integer.MIN_VALUE, Integer.MAX_VALUE}) {
            due("10 of " + n, x.square(n), false);
        }
        LadderWords y = with("a", "abcdef", "bcdefg", "cdefgh", "defghi", "efghij", "fghijk");
        due("10 of 1 is none", y.square(1), false);
        due("10 of 6 is none", y.square(6), false);
        LadderWords z = with("heart", "ember", "abuse", "resin", "tren");
        due("10 not yet", z.square(5), false);
        add(z, "trend");
        due("10 of 5", z.square(5), true);
        dueLines("10 of 5", z, 0, 1, 2, 3, 5);
        due("10 not the other way round", with("ab", "cd").square(2), false);
        due("10 one word is enough", with("aaaa").square(4), true);
    }

    private static void promise11Line() {
        LadderWords x = with("ten", "ice", "bit", "ba", "ab", "aa", "bb");
        due("11 before any", x.line(0), -1);
        x.square(3);
        dueLines("11 of 3", x, 2, 1, 0);
        x.square(2);
        dueLines("11 the least of 2", x, 3, 4);
        for (int n : WRONG) {
            due("11 line " + n, x.line(n), -1);
        }
        add(x, "ten");
        due("11 a known word is none that came", x.line(0), 3);
        add(x, "new");
        due("11 a word came", x.line(0), -1);
        x.square(2);
        due("11 found again", x.line(1), 4);
        x.square(4);
        due("11 none", x.line(0), -1);
        x.square(2);
        x.square(6);
        due("11 no such n", x.line(0), -1);
        LadderWords y = with("abc", "bzz", "czx", "bcd", "cde", "bad");
        y.square(3);
        dueLines("11 the least second line", y, 0, 1, 2);
        LadderWords z = with("cde", "abc", "bcd", "abd", "bcc", "dcc");
        z.square(3);
        dueLines("11 the least of those that begin so", z, 1, 2, 0);
    }

    private static void promise12Hide() {
        int[] right = {1, 1, 0, -1, -1, -1, 0, 1};
        int[] down = {0, 1, 1, 1, 0, -1, -1, -1};
        for (int d = 0; d < 8; d++) {
            LadderWords x = with("cat", "abcdef");
            due("12 direction " + d, x.hide(0, 3, 4, d), true);
            for (int i = 0; i < 3; i++) {
                due("12 cell of " + d, x.cell(3 + i * right[d], 4 + i * down[d]), "cat".charAt(i));
            }
            due("12 beyond in " + d, x.hide(1, 4, 3, d), false);
            x.wipe();
            due("12 beyond in " + d, x.hide(1, 4 - right[d], 4 - down[d], d), d == 4 || d == 5 || d == 6);
        }
        LadderWords x = with("cat", "cot", "dog", "a");
        due("12 first", x.hide(0, 0, 0, 0), true);
        due("12 crossing", x.hide(1, 0, 0, 2), true);
        due("12 another letter", x.hide(2, 0, 0, 1), false);
        due("12 another letter at its end", x.hide(2, 2, 2, 6), false);
        due("12 nothing was put", x.cell(2, 2), 0);
        due("12 again", x.hide(0, 0, 0, 0), true);
        due("12 beyond", x.hide(0, 6, 5, 0), false);
        due("12 nothing was put beyond", x.cell(6, 5), 0);
        due("12 up to the edge", x.hide(0, 5, 5, 0), true);
        due("12 one letter at the edge", x.hide(3, 7, 7, 1), true);
        for (int n : WRONG) {
            due("12 word " + n, x.hide(n, 0, 0, 0), false);
            due("12 x " + n, x.hide(3, n, 1, 0), false);
            due("12 y " + n, x.hide(3, 1, n, 0), false);
            due("12 direction " + n, x.hide(3, 4, 4, n), false);
        }
        due("12 x 8", x.hide(3, 8, 1, 4), false);
        due("12 y 8", x.hide(3, 1, 8, 6), false);
        due("12 direction 8", x.hide(3, 4, 4, 8), false);
        due("12 word 4", x.hide(4, 4, 4, 0), false);
        due("12 nothing came of it", x.cell(4, 4), 0);
    }

    private static void promise13Fill() {
        LadderWords x = with("abc", "z", "qq");
        String all = "abczqq";
        for (long seed : new long[] {0, 1, 77, -5, Long.MIN_VALUE, Long.MAX_VALUE}) {
            x.wipe();
            x.hide(0, 2, 0, 0);
            due("13 how many", x.fill(seed), 61);
            long state = seed;
            for (int c = 0; c < 64; c++) {
                if (c < 2 || c > 4) {
                    state = 6364136223846793005L * state + 1442695040888963407L;
                    due("13 cell " + c, x.cell(c % 8, c / 8), all.charAt((int) ((state >>> 33) % 6)));
                }
            }
            due("13 the word stays", x.cell(3, 0), 'b');
            due("13 full", x.fill(seed), 0);
        }
        LadderWords none = new LadderWords();
        none.unit('a');
        due("13 no words", none.fill(1), -1);
        dueEmptyGrid("13", none);
        none.word();
        due("13 one letter", none.fill(1), 64);
        due("13 all are that one", none.cell(7, 7), 'a');
    }

    private static void promise14Cell() {
        LadderWords x = with("az");
        x.hide(0, 7, 6, 2);
        due("14 a", x.cell(7, 6), 'a');
        due("14 z", x.cell(7, 7), 'z');
        due("14 empty", x.cell(6, 7), 0);
        due("14 x 8", x.cell(8, 6), -1);
        due("14 y 8", x.cell(7, 8), -1);
        due("14 not in the row before", x.cell(-1, 7), -1);
        for (int n : WRONG) {
            due("14 x " + n, x.cell(n, 0), -1);
            due("14 y " + n, x.cell(0, n), -1);
            due("14 both " + n, x.cell(n, n), -1);
        }
    }

    private static void promise15Found() {
        LadderWords x = with("aba", "a", "c", "ab");
        due("15 empty", x.found(0), 0);
        x.hide(0, 0, 0, 0);
        due("15 both ways", x.found(0), 2);
        due("15 one letter", x.found(1), 16);
        due("15 one letter that is not there", x.found(2), 0);
        due("15 of both ends", x.found(3), 2);
        x.hide(0, 7, 7, 6);
        due("15 once more", x.found(0), 4);
        due("15 no word 4", x.found(4), -1);
        for (int n : WRONG) {
            due("15 word " + n, x.found(n), -1);
        }
        LadderWords y = with("xx");
        y.fill(3);
        due("15 all neighbours", y.found(0), 2 * (7 * 8 * 2 + 7 * 7 * 2));
        LadderWords z = with("ab", "c");
        z.hide(1, 7, 1, 0);
        add(z, "a");
        add(z, "b");
        z.hide(2, 7, 0, 0);
        z.hide(3, 0, 1, 0);
        due("15 not round the edge", z.found(0), 0);
    }

    private static void promise16Where() {
        LadderWords x = with("ab", "a");
        due("16 none yet", x.where(0, 0), -1);
        x.hide(0, 4, 4, 5);
        x.hide(0, 4, 4, 1);
        x.hide(0, 4, 4, 0);
        x.hide(0, 4, 1, 4);
        due("16 by rows first", x.where(0, 0), 8 * (4 + 8) + 4);
        due("16 then directions", x.where(0, 1), 8 * (4 + 32));
        due("16 then directions", x.where(0, 2), 8 * (4 + 32) + 1);
        due("16 then directions", x.where(0, 3), 8 * (4 + 32) + 5);
        due("16 no more", x.where(0, 4), -1);
        for (int k = 0; k < 8; k++) {
            due("16 one letter", x.where(1, k), 8 * (4 + 8) + k);
            due("16 one letter", x.where(1, 8 + k), 8 * (4 + 32) + k);
        }
        due("16 one letter, no more", x.where(1, 16), -1);
        due("16 no word 2", x.where(2, 0), -1);
        for (int n : WRONG) {
            due("16 word " + n, x.where(n, 0), -1);
            due("16 k " + n, x.where(1, n), -1);
        }
        x.fill(9);
        LadderWords y = with("a");
        y.fill(1);
        due("16 the last", y.where(0, 511), 511);
        due("16 beyond the last", y.where(0, 512), -1);
    }

    private static void promise17Wipe() {
        LadderWords x = with("cat", "cot", "aa");
        x.wipe();
        dueEmptyGrid("17 still", x);
        x.ladder(0, 1, 0);
        x.square(2);
        type(x, "cat");
        x.gather(1);
        x.fill(4);
        x.wipe();
        dueEmptyGrid("17", x);
        due("17 found", x.found(0), 0);
        due("17 words stay", x.letter(1, 1), 'o');
        due("17 ladder stays", x.step(1), 1);
        due("17 gathering stays", x.gathered(0, 0), 0);
        due("17 square stays", x.line(0), 2);
        due("17 row stays", x.word(), 0);
        due("17 all empty", x.fill(4), 64);
    }

    public static void main(String[] args) {
        promise1NewObject();
        promise2Unit();
        promise3Word();
        promise4Letter();
        promise5Ladder();
        promise6Step();
        promise7Ways();
        promise8Gather();
        promise9Gathered();
        promise10Square();
        promise11Line();
        promise12Hide();
        promise13Fill();
        promise14Cell();
        promise15Found();
        promise16Where();
        promise17Wipe();
        System.out.println(wrong == 0 ? "all answers are as due" : wrong + " answers are not as due");
        if (wrong != 0) {
            System.exit(1);
        }
    }
}
