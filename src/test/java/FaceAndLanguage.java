import java.lang.reflect.Constructor;
import java.lang.reflect.Field;
import java.lang.reflect.Method;
import java.lang.reflect.Modifier;
import java.nio.file.Files;
import java.nio.file.Path;
import java.util.Set;
import java.util.TreeSet;
import java.util.regex.Matcher;
import java.util.regex.Pattern;

/** The class has the document's face and no other, and its text has no word that LANGUAGE.md rules out. */
public final class FaceAndLanguage {
    private static final Set<String> FACE = Set.of(
        "boolean unit(int)", "int word()", "int letter(int,int)", "int ladder(int,int,int)", "int step(int)",
        "long ways()", "int gather(int)", "int gathered(int,int)", "boolean square(int)", "int line(int)",
        "boolean hide(int,int,int,int)", "int fill(long)", "int cell(int,int)", "int found(int)",
        "int where(int,int)", "void wipe()");
    private static final Pattern RULED_OUT = Pattern.compile(
        "\\b(import|package|throw|throws|try|catch|synchronized|assert|native|Exact|protected)\\b|->|::|Exact\\(");
    private static int wrong = 0;

    private static void due(String what, Object got, Object want) {
        if (!got.equals(want)) {
            wrong++;
            System.out.println(what + ": " + got + ", due is " + want);
        }
    }

    private static String head(Method method) {
        StringBuilder head = new StringBuilder(method.getReturnType() + " " + method.getName() + "(");
        for (Class<?> type : method.getParameterTypes()) {
            head.append(head.charAt(head.length() - 1) == '(' ? "" : ",").append(type);
        }
        return head.append(")").toString();
    }

    private static void checkFace() {
        Class<?> face = LadderWords.class;
        due("the class", Modifier.toString(face.getModifiers()), "public final");
        Set<String> heads = new TreeSet<>();
        for (Method method : face.getDeclaredMethods()) {
            if (!Modifier.isPrivate(method.getModifiers())) {
                due(method.getName(), Modifier.toString(method.getModifiers()), "public");
                heads.add(head(method));
            }
        }
        due("the methods", heads, new TreeSet<>(FACE));
        due("constructors", face.getDeclaredConstructors().length, 1);
        for (Constructor<?> constructor : face.getDeclaredConstructors()) {
            due("the constructor", constructor.toString(), "public LadderWords()");
        }
        for (Field field : face.getDeclaredFields()) {
            due(field.getName() + " is private", Modifier.isPrivate(field.getModifiers()), true);
        }
    }

    private static void checkInside() {
        for (Class<?> inside : LadderWords.class.getDeclaredClasses()) {
            due(inside.getName() + " is static", Modifier.isStatic(inside.getModifiers()), true);
            due(inside.getName() + " has few fields", inside.getDeclaredFields().length <= 20, true);
            for (Field field : inside.getDeclaredFields()) {
                boolean free = !Modifier.isStatic(field.getModifiers()) || Modifier.isFinal(field.getModifiers());
                due(field.getName() + " is no static state", free, true);
            }
        }
    }

    private static void checkText() throws Exception {
        String text = Files.readString(Path.of("src/main/java/LadderWords.java"));
        Matcher ruledOut = RULED_OUT.matcher(text);
        while (ruledOut.find()) {
            due("a word in the text", ruledOut.group(), "none of those");
        }
    }

    public static void main(String[] args) throws Exception {
        checkFace();
        checkInside();
        checkText();
        System.out.println(wrong == 0 ? "all is as due" : wrong + " things are not as due");
        if (wrong != 0) {
            System.exit(1);
        }
    }
}
