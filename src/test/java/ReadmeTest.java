import java.io.IOException;
import java.lang.reflect.Method;
import java.lang.reflect.Modifier;
import java.nio.file.Files;
import java.nio.file.Path;
import java.util.Arrays;
import java.util.stream.Stream;
import java.util.regex.Matcher;
import java.util.regex.Pattern;

/** README.md: its example answers as it says, and it names every call and every test; run in the project's folder. */
public final class ReadmeTest {
    private static final Path PAGE = Path.of("README.md"), TESTS = Path.of("src/test/java");

    public static void main(String[] args) throws IOException, ReflectiveOperationException {
        Check check = new Check();
        String page = Files.readString(PAGE);
        testExample(check, page);
        testEveryCallIsNamed(check, page);
        testEveryTestIsNamed(check, page);
        check.end();
    }

    /** Each line "post.call(numbers); // answer: ..." is called, behind the text that the example feeds. */
    private static void testExample(Check c, String page) throws ReflectiveOperationException {
        Matcher text = Pattern.compile("String text = \"([^\"]*)\";").matcher(page);
        c.due("the example has a text", text.find() ? 1 : 0, 1);
        ClockPost post = new ClockPost();
        Check.feed(post, text.group(1));
        Matcher line = Pattern.compile("(?m)^post\\.(\\w+)\\(([-0-9, ]*)\\);\\s+// (-?\\d+)(.*)$").matcher(page);
        int lines = 0;
        while (line.find()) {
            int[] numbers = Stream.of(line.group(2).split(",\\s*")).filter(n -> !n.isEmpty()).mapToInt(Integer::parseInt).toArray();
            c.due(line.group(), call(post, line.group(1), numbers), Integer.parseInt(line.group(3)));
            lines++;
        }
        long calls = page.lines().filter(l -> l.startsWith("post.")).count();
        c.due("lines that tell an answer", lines, calls);
        c.due("the example calls", lines > 20 ? 1 : 0, 1);
    }

    private static int call(ClockPost post, String name, int[] numbers) throws ReflectiveOperationException {
        Class<?>[] types = new Class<?>[numbers.length];
        Arrays.fill(types, int.class);
        Method method = ClockPost.class.getMethod(name, types);
        return (int) method.invoke(post, Arrays.stream(numbers).boxed().toArray());
    }

    private static void testEveryCallIsNamed(Check c, String page) {
        for (Method m : ClockPost.class.getDeclaredMethods()) {
            if (Modifier.isPublic(m.getModifiers())) {
                c.due(m.getName() + " is named", page.contains("`" + m.getName() + "`") ? 1 : 0, 1);
            }
        }
    }

    private static void testEveryTestIsNamed(Check c, String page) throws IOException {
        try (Stream<Path> files = Files.list(TESTS)) {
            files.map(f -> f.getFileName().toString()).filter(f -> f.endsWith("Test.java")).forEach(f -> {
                String name = f.substring(0, f.length() - ".java".length());
                c.due(name + " is named", page.contains("`" + name + "`") ? 1 : 0, 1);
            });
        }
    }

    private ReadmeTest() {
    }
}
