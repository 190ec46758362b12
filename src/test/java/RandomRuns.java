import java.util.ArrayList;
import java.util.Arrays;
import java.util.Collections;
import java.util.List;
import java.util.Random;

/** Random runs of at most 512 calls, each answer compared with a slow and plain model's. */
public final class RandomRuns {
    private static final int RUNS = 1500;
    private static int wrong = 0;

    private static void due(int run, String call, long got, long want) {
        if (got != want) {
            wrong++;
            if (wrong < 50) {
                System.out.println("run " + run + ": " + call + " answered " + got + ", due is " + want);
            }
        }
    }

    /** The document's words in strings and lists, by trying everything. */
    private static final class Model {
        final StringBuilder row = new StringBuilder();
        final List<String> words = new ArrayList<>();
        final char[][] grid = new char[8][8];
        List<Integer> ladder = List.of();
        long ways = 0;
        List<List<Integer>> gatherings = List.of();
        List<Integer> square = List.of();
        boolean ladderOld;
        boolean gatheringsOld;
        boolean squareOld;

        int unit(int u) {
            if (u < 'a' || u > 'z' || row.length() == 12) {
                return 0;
            }
            row.append((char) u);
            return 1;
        }

        int word() {
            String text = row.toString();
            row.setLength(0);
            if (text.isEmpty() || text.length() > 6) {
                return -1;
            }
            if (!words.contains(text) && words.size() < 60) {
                words.add(text);
                ladderOld = true;
                gatheringsOld = true;
                squareOld = true;
            }
            return words.indexOf(text);
        }

        boolean has(int w) {
            return w >= 0 && w < words.size();
        }

        int letter(int w, int i) {
            return has(w) && i >= 0 && i < words.get(w).length() ? words.get(w).charAt(i) : -1;
        }

        static boolean oneLeftOut(String longer, String shorter) {
            for (int i = 0; i < longer.length(); i++) {
                if ((longer.substring(0, i) + longer.substring(i + 1)).equals(shorter)) {
                    return true;
                }
            }
            return false;
        }

        static boolean oneChanged(String a, String b) {
            for (int i = 0; i < a.length() && a.length() == b.length(); i++) {
                if (!a.equals(b) && (a.substring(0, i) + b.charAt(i) + a.substring(i + 1)).equals(b)) {
                    return true;
                }
            }
            return false;
        }

        static boolean isStep(String a, String b, int kind) {
            return oneChanged(a, b) || kind == 1 && (oneLeftOut(a, b) || oneLeftOut(b, a));
        }

        /** All shortest ladders to each word, written out in their order; too many are given up. */
        int ladder(int from, int to, int kind) {
            ladder = List.of();
            ways = 0;
            ladderOld = false;
            if (!has(from) || !has(to) || kind < 0 || kind > 1) {
                return -1;
            }
            boolean[] seen = new boolean[words.size()];
            seen[from] = true;
            List<List<Integer>> paths = List.of(List.of(from));
            while (!paths.isEmpty() && !seen[to]) {
                paths = longer(paths, seen, kind);
                for (List<Integer> path : paths) {
                    seen[path.get(path.size() - 1)] = true;
                }
            }
            for (List<Integer> path : paths) {
                if (path.get(path.size() - 1) == to) {
                    ladder = ways == 0 ? path : ladder;
                    ways++;
                }
            }
            return ladder.size() - 1;
        }

        private List<List<Integer>> longer(List<List<Integer>> paths, boolean[] seen, int kind) {
            List<List<Integer>> more = new ArrayList<>();
            for (List<Integer> path : paths) {
                String last = words.get(path.get(path.size() - 1));
                for (int w = 0; w < words.size(); w++) {
                    if (!seen[w] && isStep(last, words.get(w), kind)) {
                        List<Integer> next = new ArrayList<>(path);
                        next.add(w);
                        more.add(next);
                    }
                }
            }
            return more;
        }

        int step(int k) {
            return ladderOld || k < 0 || k >= ladder.size() ? -1 : ladder.get(k);
        }

        static String sorted(String text) {
            char[] letters = text.toCharArray();
            Arrays.sort(letters);
            return new String(letters);
        }

        int gather(int most) {
            if (most < 1 || most > 4) {
                return -1;
            }
            gatherings = new ArrayList<>();
            gatheringsOld = false;
            String all = sorted(row.toString());
            if (!all.isEmpty()) {
                gatherOn(new ArrayList<>(), "", all, most);
            }
            return gatherings.size();
        }

        private void gatherOn(List<Integer> chosen, String text, String all, int most) {
            if (sorted(text).equals(all)) {
                gatherings.add(new ArrayList<>(chosen));
            }
            if (chosen.size() == most || text.length() >= all.length()) {
                return;
            }
            int first = chosen.isEmpty() ? 0 : chosen.get(chosen.size() - 1);
            for (int w = first; w < words.size(); w++) {
                chosen.add(w);
                gatherOn(chosen, text + words.get(w), all, most);
                chosen.remove(chosen.size() - 1);
            }
        }

        int gathered(int k, int i) {
            if (gatheringsOld || k < 0 || k >= Math.min(200, gatherings.size())) {
                return -1;
            }
            return i < 0 || i >= gatherings.get(k).size() ? -1 : gatherings.get(k).get(i);
        }

        int square(int n) {
            square = List.of();
            squareOld = false;
            List<Integer> lines = new ArrayList<>();
            if (n >= 2 && n <= 5 && squareOn(lines, n)) {
                square = lines;
                return 1;
            }
            return 0;
        }

        private boolean squareOn(List<Integer> lines, int n) {
            if (lines.size() == n) {
                return true;
            }
            for (int w = 0; w < words.size(); w++) {
                lines.add(w);
                if (words.get(w).length() == n && lastLineFits(lines) && squareOn(lines, n)) {
                    return true;
                }
                lines.remove(lines.size() - 1);
            }
            return false;
        }

        private boolean lastLineFits(List<Integer> lines) {
            int last = lines.size() - 1;
            for (int j = 0; j < last; j++) {
                if (words.get(lines.get(last)).charAt(j) != words.get(lines.get(j)).charAt(last)) {
                    return false;
                }
            }
            return true;
        }

        int line(int i) {
            return squareOld || i < 0 || i >= square.size() ? -1 : square.get(i);
        }

        static int right(int direction) {
            return List.of(7, 0, 1).contains(direction) ? 1 : List.of(3, 4, 5).contains(direction) ? -1 : 0;
        }

        static int down(int direction) {
            return List.of(1, 2, 3).contains(direction) ? 1 : List.of(5, 6, 7).contains(direction) ? -1 : 0;
        }

        /** The cells that a word of this length would take, read from the grid; null when beyond it. */
        private String read(int x, int y, int direction, int length) {
            StringBuilder text = new StringBuilder();
            for (int i = 0; i < length; i++) {
                int cx = x + i * right(direction);
                int cy = y + i * down(direction);
                if (cx < 0 || cx > 7 || cy < 0 || cy > 7) {
                    return null;
                }
                text.append(grid[cy][cx]);
            }
            return text.toString();
        }

        int hide(int w, int x, int y, int direction) {
            if (!has(w) || x < 0 || x > 7 || y < 0 || y > 7 || direction < 0 || direction > 7) {
                return 0;
            }
            String text = words.get(w);
            String there = read(x, y, direction, text.length());
            if (there == null) {
                return 0;
            }
            for (int i = 0; i < text.length(); i++) {
                if (there.charAt(i) != 0 && there.charAt(i) != text.charAt(i)) {
                    return 0;
                }
            }
            for (int i = 0; i < text.length(); i++) {
                grid[y + i * down(direction)][x + i * right(direction)] = text.charAt(i);
            }
            return 1;
        }

        int fill(long seed) {
            if (words.isEmpty()) {
                return -1;
            }
            String all = String.join("", words);
            long state = seed;
            int filled = 0;
            for (int c = 0; c < 64; c++) {
                if (grid[c / 8][c % 8] == 0) {
                    state = state * 6364136223846793005L + 1442695040888963407L;
                    grid[c / 8][c % 8] = all.charAt((int) Long.remainderUnsigned(state >>> 33, all.length()));
                    filled++;
                }
            }
            return filled;
        }

        int cell(int x, int y) {
            return x < 0 || x > 7 || y < 0 || y > 7 ? -1 : grid[y][x];
        }

        private List<Integer> places(int w) {
            List<Integer> places = new ArrayList<>();
            for (int direction = 0; direction < 8; direction++) {
                for (int c = 0; c < 64; c++) {
                    if (words.get(w).equals(read(c % 8, c / 8, direction, words.get(w).length()))) {
                        places.add(8 * c + direction);
                    }
                }
            }
            Collections.sort(places);
            return places;
        }

        int found(int w) {
            return has(w) ? places(w).size() : -1;
        }

        int where(int w, int k) {
            return has(w) && k >= 0 && k < places(w).size() ? places(w).get(k) : -1;
        }

        void wipe() {
            for (char[] line : grid) {
                Arrays.fill(line, (char) 0);
            }
        }
    }

    /** One run, with its own taste: how large its alphabet is, how long its words are. */
    private static final class Run {
        final int number;
        final Random random;
        final int alphabet;
        final int longest;
        final int wordsWanted;
        final LadderWords x = new LadderWords();
        final Model model = new Model();
        int calls = 0;

        Run(int number) {
            this.number = number;
            random = new Random(number);
            alphabet = 1 + random.nextInt(number % 3 == 0 ? 26 : 4);
            longest = 1 + random.nextInt(6);
            wordsWanted = 1 + random.nextInt(65);
        }

        void check(String call, long got, long want) {
            calls++;
            due(number, call, got, want);
        }

        int letter() {
            return random.nextInt(80) == 0 ? random.nextInt(300) - 20 : 'a' + random.nextInt(alphabet);
        }

        int small(int bound) {
            return random.nextInt(bound + 2) - 1;
        }

        int aWord() {
            int n = model.words.size();
            return n == 0 || random.nextInt(25) == 0 ? small(62) : random.nextInt(n);
        }

        void type(int letters) {
            for (int i = 0; i < letters; i++) {
                int u = letter();
                check("unit(" + u + ")", x.unit(u) ? 1 : 0, model.unit(u));
            }
        }

        void typeWord() {
            type(random.nextInt(40) == 0 ? random.nextInt(14) : 1 + random.nextInt(longest));
            check("word()", x.word(), model.word());
        }

        void lookAtLadder() {
            int from = aWord();
            int to = aWord();
            int kind = random.nextInt(12) == 0 ? small(2) : random.nextInt(2);
            check("ladder(" + from + ", " + to + ", " + kind + ")", x.ladder(from, to, kind), model.ladder(from, to, kind));
            check("ways()", x.ways(), model.ways);
            lookAtSteps();
        }

        void lookAtSteps() {
            for (int k = -1; k <= Math.min(8, model.ladder.size()); k++) {
                check("step(" + k + ")", x.step(k), model.step(k));
            }
        }

        void lookAtGatherings() {
            type(1 + random.nextInt(6));
            int most = random.nextInt(15) == 0 ? small(5) : 1 + random.nextInt(4);
            check("gather(" + most + ")", x.gather(most), model.gather(most));
            for (int i = 0; i < 10; i++) {
                lookAtGathered(small(Math.min(202, model.gatherings.size())), small(4));
            }
        }

        void lookAtGathered(int k, int i) {
            check("gathered(" + k + ", " + i + ")", x.gathered(k, i), model.gathered(k, i));
        }

        void lookAtSquare() {
            int n = random.nextInt(8) == 0 ? small(7) : 2 + random.nextInt(4);
            check("square(" + n + ")", x.square(n) ? 1 : 0, model.square(n));
            lookAtLines();
        }

        void lookAtLines() {
            for (int i = -1; i <= 5; i++) {
                check("line(" + i + ")", x.line(i), model.line(i));
            }
        }

        void hide() {
            int w = aWord();
            int cx = small(8);
            int cy = small(8);
            int d = small(8);
            check("hide(" + w + ", " + cx + ", " + cy + ", " + d + ")", x.hide(w, cx, cy, d) ? 1 : 0, model.hide(w, cx, cy, d));
        }

        void fill() {
            long seed = random.nextLong();
            check("fill(" + seed + ")", x.fill(seed), model.fill(seed));
        }

        void lookAtGrid() {
            int w = aWord();
            int cx = small(8);
            int cy = small(8);
            int k = small(Math.max(0, model.found(w)));
            check("cell(" + cx + ", " + cy + ")", x.cell(cx, cy), model.cell(cx, cy));
            check("found(" + w + ")", x.found(w), model.found(w));
            check("where(" + w + ", " + k + ")", x.where(w, k), model.where(w, k));
        }

        void act() {
            switch (random.nextInt(12)) {
                case 0 -> lookAtLadder();
                case 1 -> lookAtGatherings();
                case 2 -> lookAtSquare();
                case 3, 4 -> hide();
                case 5 -> fill();
                case 6, 7 -> lookAtGrid();
                case 8 -> typeWord();
                case 9 -> check("letter", x.letter(3, 2), model.letter(3, 2));
                case 10 -> lookAtWhatStays();
                default -> wipeSometimes();
            }
        }

        void lookAtWhatStays() {
            check("ways() later", x.ways(), model.ways);
            check("step(0) later", x.step(0), model.step(0));
            check("line(0) later", x.line(0), model.line(0));
            lookAtGathered(0, 0);
        }

        void wipeSometimes() {
            if (random.nextInt(3) == 0) {
                x.wipe();
                model.wipe();
                calls++;
            }
        }

        void go() {
            for (int w = 0; w < wordsWanted && calls < 400; w++) {
                typeWord();
                if (random.nextInt(10) == 0) {
                    act();
                }
            }
            while (calls < 480) {
                act();
            }
        }
    }

    public static void main(String[] args) {
        for (int run = 0; run < RUNS; run++) {
            new Run(run).go();
        }
        System.out.println(wrong == 0 ? "all answers are as due" : wrong + " answers are not as due");
        if (wrong != 0) {
            System.exit(1);
        }
    }
}
