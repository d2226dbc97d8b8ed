import java.io.IOException;
import java.lang.reflect.Constructor;
import java.lang.reflect.Field;
import java.lang.reflect.Method;
import java.lang.reflect.Modifier;
import java.nio.file.Files;
import java.nio.file.Path;
import java.util.Arrays;
import java.util.Set;
import java.util.TreeSet;
import java.util.regex.Matcher;
import java.util.regex.Pattern;

/** The document's face, and those rules of LANGUAGE.md that can be seen from outside; run in the project's folder. */
public final class FaceTest {
    private static final String FACE = "row/3 set/3 copy/5 drop/1 feed/1 house/0 fault/0 days/1 answer/1 post/1 dread/2 undo/0 "
            + "letter/2 burden/1 sum/1 behind/1 falls/1 order/2 hold/2 ease/3 fits/5 stealth/3 lost/3 drawn/3 image/1 restore/1 "
            + "kind/1 as/2 ask/2 trace/1 count/1 status/0";
    private static final Set<String> LIBRARY = Set.of("System.arraycopy", "Arrays.fill", "Integer.bitCount", "Math.min", "Math.max");

    public static void main(String[] args) throws IOException {
        Check check = new Check();
        testConstants(check);
        testMembers(check);
        testNamesOfPrivateMethods(check);
        testSizes(check);
        String source = Files.readString(Path.of("src/main/java/ClockPost.java"));
        String code = codeAlone(source);
        check.due("signs 1 to 127", source.chars().allMatch(s -> s > 0 && s < 128) ? 1 : 0, 1);
        testWords(check, code);
        testLibrary(check, code);
        check.end();
    }

    private static void testConstants(Check c) {
        c.due("constants", new int[] {ClockPost.NONE, ClockPost.BAD, ClockPost.STATE, ClockPost.FULL},
                -1000000, -1000001, -1000002, -1000003);
    }

    private static void testMembers(Check c) {
        c.due("public final", ClockPost.class.getModifiers() & (Modifier.PUBLIC | Modifier.FINAL), Modifier.PUBLIC | Modifier.FINAL);
        Set<String> face = new TreeSet<>();
        for (Method m : ClockPost.class.getDeclaredMethods()) {
            if (!Modifier.isPrivate(m.getModifiers())) {
                face.add(m.getName() + "/" + m.getParameterCount());
                boolean plain = m.getModifiers() == Modifier.PUBLIC && m.getReturnType() == int.class
                        && Arrays.stream(m.getParameterTypes()).allMatch(t -> t == int.class);
                c.due(m + " is as told", plain ? 1 : 0, 1);
            }
        }
        c.due("methods " + face, face.equals(new TreeSet<>(Arrays.asList(FACE.split(" ")))) ? 1 : 0, 1);
        for (Field f : ClockPost.class.getDeclaredFields()) {
            boolean told = Set.of("NONE", "BAD", "STATE", "FULL").contains(f.getName());
            c.due(f + " is private or told", Modifier.isPrivate(f.getModifiers()) ? 0 : 1, told ? 1 : 0);
        }
        for (Constructor<?> made : ClockPost.class.getDeclaredConstructors()) {
            c.due("constructor " + made, made.getParameterCount(), 0);
        }
        c.due("constructors", ClockPost.class.getDeclaredConstructors().length, 1);
    }

    private static void testNamesOfPrivateMethods(Check c) {
        Set<String> names = new TreeSet<>(Arrays.asList(FACE.replaceAll("/[0-9]", "").split(" ")));
        for (Class<?> inside : ClockPost.class.getDeclaredClasses()) {
            int modifiers = inside.getModifiers();
            boolean hidden = !Modifier.isPublic(modifiers) && !Modifier.isProtected(modifiers) && Modifier.isStatic(modifiers);
            c.due(inside + " is hidden and static", hidden ? 1 : 0, 1);
            for (Method m : inside.getDeclaredMethods()) {
                c.due(m + " has a name of its own", names.contains(m.getName()) ? 1 : 0, 0);
            }
        }
        for (Method m : ClockPost.class.getDeclaredMethods()) {
            boolean twice = Modifier.isPrivate(m.getModifiers()) && names.contains(m.getName());
            c.due(m + " has a name of its own", twice ? 1 : 0, 0);
        }
        c.due("at most twelve classes", ClockPost.class.getDeclaredClasses().length + 1 <= 12 ? 1 : 0, 1);
    }

    /** Rule 11: at most seven parameters a method, some twenty fields a class. */
    private static void testSizes(Check c) {
        testSize(c, ClockPost.class);
        for (Class<?> inside : ClockPost.class.getDeclaredClasses()) {
            testSize(c, inside);
        }
    }

    private static void testSize(Check c, Class<?> one) {
        for (Method m : one.getDeclaredMethods()) {
            c.due(m + " has few parameters", m.getParameterCount() <= 7 ? 1 : 0, 1);
        }
        long fields = Arrays.stream(one.getDeclaredFields()).filter(f -> !Modifier.isStatic(f.getModifiers())).count();
        c.due(one + " has few fields", fields <= 20 ? 1 : 0, 1);
        for (Field f : one.getDeclaredFields()) {
            boolean kept = !Modifier.isStatic(f.getModifiers()) || Modifier.isFinal(f.getModifiers());
            c.due(f + " is final, if it is static", kept ? 1 : 0, 1);
        }
    }

    private static String codeAlone(String source) {
        return source.replaceAll("(?s)/\\*.*?\\*/", " ").replaceAll("//[^\n]*", " ").replaceAll("'(\\\\.|[^'])'", "0");
    }

    /** Rule 4: no function and no constant of the library but those that it lists. */
    private static void testLibrary(Check c, String code) {
        Matcher m = Pattern.compile("\\b(?!ClockPost\\b)([A-Z]\\w*[a-z]\\w*)\\.(\\w+)").matcher(code);
        while (m.find()) {
            c.due("of the library: " + m.group(), LIBRARY.contains(m.group()) ? 1 : 0, 1);
        }
    }

    private static void testWords(Check c, String code) {
        Matcher m = Pattern.compile("\\b(throw|throws|try|catch|synchronized|assert|native|package|yield|goto|double|float|hashCode|"
                + "toString|System\\.(?!arraycopy)\\w+|Math\\.\\w+Exact|protected)\\b|->|::").matcher(code);
        while (m.find()) {
            c.due("a word outside the language: " + m.group(), 1, 0);
        }
        Matcher imports = Pattern.compile("import\\s+([^;]+);").matcher(code);
        while (imports.find()) {
            c.due("import " + imports.group(1), imports.group(1).equals("java.util.Arrays") ? 1 : 0, 1);
        }
    }
}
