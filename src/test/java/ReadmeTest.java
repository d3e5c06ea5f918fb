import java.io.IOException;
import java.lang.reflect.Method;
import java.nio.file.Files;
import java.nio.file.Path;
import java.util.List;
import java.util.regex.Matcher;
import java.util.regex.Pattern;
import java.util.stream.Collectors;
import java.util.stream.Stream;

/** README.md tells no answer that the program does not give, and leaves out no call and no test. */
public final class ReadmeTest {
    private static final Pattern CALL = Pattern.compile("^x\\.(\\w+)\\(([-\\d, ]*)\\); +// (-?\\d+|[A-Z]+)\\b.*$");
    private static final Pattern PAGE = Pattern.compile("for \\(char c : \"([^\"]+)\"\\.toCharArray\\(\\)\\)");

    private static int right = 0;
    private static int wrong = 0;

    private static void must(boolean holds, String what) {
        if (holds) {
            right++;
        } else {
            wrong++;
            System.out.println("not so: " + what);
        }
    }

    public static void main(String[] args) throws IOException, ReflectiveOperationException {
        String readme = Files.readString(Path.of("README.md"));
        answers(example(readme));
        for (Method m : LaneRow.class.getDeclaredMethods()) {
            if ((m.getModifiers() & java.lang.reflect.Modifier.PUBLIC) != 0) {
                must(readme.contains("`" + m.getName() + "`"), "README.md names the call " + m.getName());
            }
        }
        for (String name : testNames()) {
            must(readme.contains("`" + name + "`"), "README.md names the test " + name);
        }
        System.out.println(right + " words of README.md as due, " + wrong + " not");
        if (wrong != 0) {
            System.exit(1);
        }
    }

    private static String[] example(String readme) {
        int begin = readme.indexOf("```java\n");
        int end = readme.indexOf("```", begin + 3);
        must(begin >= 0 && end > begin, "README.md has an example");
        return readme.substring(begin + "```java\n".length(), end).split("\n");
    }

    private static void answers(String[] lines) throws ReflectiveOperationException {
        LaneRow x = new LaneRow();
        must(lines[0].equals("LaneRow x = new LaneRow();"), "the example makes an object");
        Matcher page = PAGE.matcher(lines[1]);
        must(page.find(), "the example writes a page");
        page.group(1).chars().forEach(x::letter);
        for (int i = 2; i < lines.length; i++) {
            Matcher call = CALL.matcher(lines[i]);
            must(call.matches(), "this is a call with its answer: " + lines[i]);
            if (call.matches()) {
                must(answer(x, call.group(1), call.group(2)) == due(call.group(3)), lines[i]);
            }
        }
    }

    private static long due(String word) throws ReflectiveOperationException {
        boolean isName = Character.isLetter(word.charAt(0));
        return isName ? LaneRow.class.getField(word).getInt(null) : Long.parseLong(word);
    }

    private static long answer(LaneRow x, String name, String told) throws ReflectiveOperationException {
        String[] words = told.isEmpty() ? new String[0] : told.split(", ");
        Class<?>[] types = new Class<?>[words.length];
        Object[] arguments = new Object[words.length];
        for (int i = 0; i < words.length; i++) {
            types[i] = int.class;
            arguments[i] = Integer.valueOf(words[i]);
        }
        return ((Number) LaneRow.class.getMethod(name, types).invoke(x, arguments)).longValue();
    }

    private static List<String> testNames() throws IOException {
        try (Stream<Path> files = Files.list(Path.of("src/test/java"))) {
            return files.map(file -> file.getFileName().toString().replace(".java", "")).collect(Collectors.toList());
        }
    }
}
