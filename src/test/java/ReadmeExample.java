import java.nio.file.Files;
import java.nio.file.Path;
import java.util.HashMap;
import java.util.Map;
import java.util.regex.Matcher;
import java.util.regex.Pattern;

/** Reads the example in README.md line by line, makes its calls, and compares them with the answers told there. */
public final class ReadmeExample {
    private static final Pattern TYPED = Pattern.compile("for \\(char c : \"([a-z]+)\"\\.toCharArray\\(\\)\\) x\\.unit\\(c\\);");
    private static final Pattern CALL = Pattern.compile(
        "(?:int (\\w+) = )?x\\.(\\w+)\\(([^)]*)\\); *// (-?\\d+|true|false)\\b.*");
    private static final Map<String, Long> NUMBERS = new HashMap<>();
    private static int wrong = 0;
    private static int asked = 0;

    private static void due(String line, Object got, Object want) {
        if (!got.equals(want)) {
            wrong++;
            System.out.println(line + " answered " + got + ", due is " + want);
        }
    }

    private static long number(String text) {
        return NUMBERS.containsKey(text) ? NUMBERS.get(text) : Long.parseLong(text.replace("L", ""));
    }

    private static long[] numbers(String arguments) {
        String[] texts = arguments.isEmpty() ? new String[0] : arguments.split(", ");
        long[] numbers = new long[texts.length];
        for (int i = 0; i < texts.length; i++) {
            numbers[i] = number(texts[i]);
        }
        return numbers;
    }

    private static Object answer(LadderWords x, String name, long[] a) {
        switch (name) {
            case "word": return x.word();
            case "ladder": return x.ladder((int) a[0], (int) a[1], (int) a[2]);
            case "step": return x.step((int) a[0]);
            case "ways": return x.ways();
            case "gather": return x.gather((int) a[0]);
            case "gathered": return x.gathered((int) a[0], (int) a[1]);
            case "square": return x.square((int) a[0]);
            case "hide": return x.hide((int) a[0], (int) a[1], (int) a[2], (int) a[3]);
            case "fill": return x.fill(a[0]);
            case "cell": return x.cell((int) a[0], (int) a[1]);
            case "found": return x.found((int) a[0]);
            case "where": return x.where((int) a[0], (int) a[1]);
            default: return "no call that the example may have";
        }
    }

    private static void follow(LadderWords x, String line) {
        Matcher typed = TYPED.matcher(line);
        Matcher call = CALL.matcher(line);
        if (typed.matches()) {
            for (char c : typed.group(1).toCharArray()) {
                due(line, x.unit(c), true);
            }
        } else if (call.matches()) {
            asked++;
            Object answer = answer(x, call.group(2), numbers(call.group(3)));
            due(line, answer.toString(), call.group(4));
            if (call.group(1) != null) {
                NUMBERS.put(call.group(1), Long.parseLong(answer.toString()));
            }
        } else if (!line.isBlank() && !line.equals("LadderWords x = new LadderWords();")) {
            due(line, "a line that can't be followed", "none");
        }
    }

    public static void main(String[] args) throws Exception {
        String text = Files.readString(Path.of("README.md"));
        int start = text.indexOf("```java\n") + "```java\n".length();
        LadderWords x = new LadderWords();
        for (String line : text.substring(start, text.indexOf("```", start)).split("\n")) {
            follow(x, line);
        }
        due("how many answers are told", asked > 10, true);
        System.out.println(wrong == 0 ? asked + " answers are as due" : wrong + " answers are not as due");
        if (wrong != 0) {
            System.exit(1);
        }
    }
}
