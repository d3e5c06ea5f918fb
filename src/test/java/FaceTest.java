import java.io.IOException;
import java.lang.reflect.Constructor;
import java.lang.reflect.Field;
import java.lang.reflect.Method;
import java.lang.reflect.Modifier;
import java.nio.file.Files;
import java.nio.file.Path;
import java.util.Arrays;
import java.util.Set;
import java.util.TreeSet;
import java.util.regex.Matcher;
import java.util.regex.Pattern;

/** The class has the document's face and no other, and keeps to what a reader of words can see of LANGUAGE.md. */
public final class FaceTest {
    private static final Set<String> FACE = new TreeSet<>(Arrays.asList(
        "int letter(int)", "int blank()", "int fault()", "int row()", "int tape(int)", "int as(int)",
        "int key(int,int)", "int lane(int,int)", "int find(int,int)", "int nth(int,int)", "int sum(int,int)",
        "int finger(int,int,int)", "int ask(int)", "int put(int,int,int)", "int remove(int)", "int split(int)",
        "int join()", "int cost()", "int best(int,int)", "int change(int)", "int see(int,int,int)", "int forget()",
        "int rounds(int,int,int)", "int image()", "int restore()", "int count(int)", "long digest()"));
    private static final Set<String> CONSTANTS = new TreeSet<>(Arrays.asList(
        "NONE", "UNKNOWN", "OUTSIDE", "STATE", "FULL"));
    private static final Pattern FORBIDDEN = Pattern.compile(
        "\\b(throw|throws|try|catch|finally|synchronized|assert|import|package|record|Object|System\\.out"
        + "|hashCode|toString|Exact)\\b|->|::|@|\\w+Exact\\b");
    private static final int MOST_LINES = 60;
    private static final int MOST_CLASSES = 12;
    private static final int MOST_FIELDS = 20;

    private static int wrong = 0;

    private static void must(boolean holds, String what) {
        if (!holds) {
            wrong++;
            System.out.println("not so: " + what);
        }
    }

    public static void main(String[] args) throws IOException {
        face();
        String source = Files.readString(Path.of("src/main/java/LaneRow.java"));
        words(source);
        lengths(source);
        System.out.println(wrong == 0 ? "the face and the words are as told" : wrong + " are not as told");
        if (wrong != 0) {
            System.exit(1);
        }
    }

    private static void face() {
        Class<?> type = LaneRow.class;
        must(Modifier.isPublic(type.getModifiers()) && Modifier.isFinal(type.getModifiers()), "public and final");
        Set<String> open = new TreeSet<>();
        Set<String> names = new TreeSet<>();
        for (Method m : type.getDeclaredMethods()) {
            String types = Arrays.toString(m.getParameterTypes()).replaceAll("[\\[\\] ]", "");
            if (Modifier.isPrivate(m.getModifiers())) {
                names.add(m.getName());
            } else {
                must(Modifier.isPublic(m.getModifiers()) && !Modifier.isStatic(m.getModifiers()), m + " is public");
                open.add(m.getReturnType() + " " + m.getName() + "(" + types + ")");
            }
        }
        must(open.equals(FACE), "the methods are those of the document: " + open);
        for (Method m : type.getMethods()) {
            must(!names.contains(m.getName()), "no private method is named " + m.getName());
        }
        fields(type);
        Constructor<?>[] made = type.getDeclaredConstructors();
        must(made.length == 1 && Modifier.isPublic(made[0].getModifiers()) && made[0].getParameterCount() == 0,
            "one constructor, public, of nothing");
        for (Class<?> inner : type.getDeclaredClasses()) {
            must(Modifier.isStatic(inner.getModifiers()) && !Modifier.isPublic(inner.getModifiers()),
                inner + " is static, and not public");
            must(inner.getDeclaredFields().length <= MOST_FIELDS, inner + " has few fields");
        }
        must(type.getDeclaredClasses().length + 1 <= MOST_CLASSES, "at most " + MOST_CLASSES + " classes");
    }

    private static void fields(Class<?> type) {
        Set<String> open = new TreeSet<>();
        int own = 0;
        for (Field f : type.getDeclaredFields()) {
            boolean isStatic = Modifier.isStatic(f.getModifiers());
            must(!isStatic || Modifier.isFinal(f.getModifiers()), f + " is final");
            own += isStatic ? 0 : 1;
            if (!Modifier.isPrivate(f.getModifiers())) {
                must(isStatic && Modifier.isPublic(f.getModifiers()) && f.getType() == int.class, f + " is a constant");
                open.add(f.getName());
            }
        }
        must(open.equals(CONSTANTS), "the constants are those of the document: " + open);
        must(own <= MOST_FIELDS, "few fields");
    }

    private static void words(String source) {
        String code = source.replaceAll("(?s)/\\*.*?\\*/", "").replaceAll("//[^\n]*", "");
        Matcher m = FORBIDDEN.matcher(code);
        while (m.find()) {
            must(false, "the code does without " + m.group());
        }
        must(source.chars().allMatch(c -> c < 127), "plain signs alone");
    }

    private static void lengths(String source) {
        String[] lines = source.split("\n");
        Pattern head = Pattern.compile("^( +)[a-zA-Z][\\w\\[\\] ]*\\(.*\\) \\{$");
        for (int i = 0; i < lines.length; i++) {
            Matcher m = head.matcher(lines[i]);
            if (m.find() && !lines[i].trim().matches("(if|for|while|switch|else).*")) {
                int end = i;
                while (end < lines.length && !lines[end].equals(m.group(1) + "}")) {
                    end++;
                }
                must(end - i + 1 <= MOST_LINES, "short enough: " + lines[i].trim());
            }
            must(lines[i].length() <= 120, "line " + (i + 1) + " is not too long");
        }
    }
}
