import java.util.Random;

/**
 * Rules 7 and 13 of LANGUAGE.md: no call throws or fails to end, for any arguments in any state (an object's
 * calls after its 512th too, whose answers are free), and the same calls always give the same answers.
 */
public final class AnyCalls {
    private static final int[] EDGES = {Integer.MIN_VALUE, Integer.MIN_VALUE + 1, -1_000_000_007, -65_536, -513, -256, -61,
        -9, -8, -2, -1, 0, 1, 2, 3, 4, 5, 6, 7, 8, 9, 11, 12, 13, 25, 26, 58, 59, 60, 61, 63, 64, 96, 97, 122, 123, 199, 200,
        201, 255, 256, 511, 512, 513, 65_535, 65_536, 1 << 28, 1 << 29, 1 << 30, Integer.MAX_VALUE - 1, Integer.MAX_VALUE};
    private static final String[] NAMES = {"unit", "word", "letter", "ladder", "step", "ways", "gather", "gathered", "square",
        "line", "hide", "fill", "cell", "found", "where", "wipe"};
    private static final int OBJECTS = 400;
    private static final int CALLS = 1500;
    private static int wrong = 0;

    private static void tell(String text) {
        wrong++;
        if (wrong < 50) {
            System.out.println(text);
        }
    }

    private static int number(Random random, int bound) {
        int taste = random.nextInt(10);
        if (taste == 0) {
            return random.nextInt();
        }
        return taste < 3 ? EDGES[random.nextInt(EDGES.length)] : random.nextInt(bound);
    }

    private static int letter(Random random, int alphabet) {
        return random.nextInt(20) == 0 ? number(random, 256) : 'a' + random.nextInt(alphabet);
    }

    private static long call(LadderWords x, int method, Random random, int alphabet) {
        switch (method) {
            case 0: return x.unit(letter(random, alphabet)) ? 1 : 0;
            case 1: return x.word();
            case 2: return x.letter(number(random, 60), number(random, 6));
            case 3: return x.ladder(number(random, 60), number(random, 60), number(random, 2));
            case 4: return x.step(number(random, 60));
            case 5: return x.ways();
            case 6: return x.gather(number(random, 5));
            case 7: return x.gathered(number(random, 200), number(random, 4));
            case 8: return x.square(number(random, 6)) ? 1 : 0;
            case 9: return x.line(number(random, 5));
            case 10: return x.hide(number(random, 60), number(random, 8), number(random, 8), number(random, 8)) ? 1 : 0;
            case 11: return x.fill(random.nextBoolean() ? random.nextLong() : number(random, 60));
            case 12: return x.cell(number(random, 8), number(random, 8));
            case 13: return x.found(number(random, 60));
            case 14: return x.where(number(random, 60), number(random, 512));
            default:
                x.wipe();
                return 0;
        }
    }

    private static boolean isLetter(long answer) {
        return answer >= 97 && answer <= 122;
    }

    /** What a call of this name can answer at all. */
    private static boolean isPossible(int method, long answer) {
        switch (NAMES[method]) {
            case "unit": case "square": case "hide": return answer == 0 || answer == 1;
            case "letter": return answer == -1 || isLetter(answer);
            case "cell": return answer == -1 || answer == 0 || isLetter(answer);
            case "fill": return answer >= -1 && answer <= 64;
            case "found": return answer >= -1 && answer <= 512;
            case "where": return answer >= -1 && answer <= 511;
            case "ways": return answer >= 0;
            case "gather": return answer >= -1;
            case "wipe": return answer == 0;
            default: return answer >= -1 && answer <= 59;
        }
    }

    /** Letters and words come more often than all else, so that there is something to call for. */
    private static int method(Random random) {
        int taste = random.nextInt(10);
        return taste < 5 ? 0 : taste < 6 ? 1 : random.nextInt(NAMES.length);
    }

    private static void run(int seed) {
        LadderWords x = new LadderWords();
        LadderWords twin = new LadderWords();
        Random choice = new Random(seed);
        int alphabet = 1 + choice.nextInt(seed % 2 == 0 ? 3 : 26);
        for (int calls = 1; calls <= CALLS; calls++) {
            int method = method(choice);
            long arguments = choice.nextLong();
            String name = "object " + seed + ", call " + calls + ", " + NAMES[method];
            try {
                long answer = call(x, method, new Random(arguments), alphabet);
                long other = call(twin, method, new Random(arguments), alphabet);
                if (answer != other) {
                    tell(name + " answered " + answer + " and " + other);
                }
                if (calls <= 512 && !isPossible(method, answer)) {
                    tell(name + " answered " + answer);
                }
            } catch (RuntimeException | StackOverflowError thrown) {
                tell(name + ": the machine threw " + thrown);
                return;
            }
        }
    }

    public static void main(String[] args) {
        for (int seed = 0; seed < OBJECTS; seed++) {
            run(seed);
        }
        System.out.println(wrong == 0 ? "all answers are as due" : wrong + " answers are not as due");
        if (wrong != 0) {
            System.exit(1);
        }
    }
}
