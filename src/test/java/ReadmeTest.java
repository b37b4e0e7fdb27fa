import java.io.IOException;
import java.lang.reflect.Method;
import java.lang.reflect.Modifier;
import java.nio.file.DirectoryStream;
import java.nio.file.Files;
import java.nio.file.Path;
import java.util.regex.Matcher;
import java.util.regex.Pattern;

/** README.md: its example answers what it says, and it names each call and each test. */
public final class ReadmeTest {
    private static final Pattern LINE = Pattern.compile("mine\\.(\\w+)\\((.*)\\); +// ([^:]+)(?::.*)?");

    private final Check check = new Check("ReadmeTest");
    private final PitForge mine = new PitForge();

    public static void main(String[] args) throws IOException, ReflectiveOperationException {
        ReadmeTest test = new ReadmeTest();
        String page = Files.readString(Path.of("README.md"));
        test.example(page);
        test.calls(page);
        test.tests(page);
        test.check.close();
    }

    private void example(String page) throws ReflectiveOperationException {
        int from = page.indexOf("```java\n") + "```java\n".length();
        String[] lines = page.substring(from, page.indexOf("```", from)).split("\n");
        check.same("the first line of the example", lines[0], "PitForge mine = new PitForge();");
        check.same("the example has calls", lines.length > 10, true);
        for (int i = 1; i < lines.length; i++) {
            Matcher line = LINE.matcher(lines[i]);
            check.same("a call with its answer: " + lines[i], line.matches(), true);
            if (line.matches()) {
                check.same(lines[i], answer(line.group(1), line.group(2)), line.group(3));
            }
        }
    }

    /** Does a call of the example and writes its answer as the page does. */
    private String answer(String name, String written) throws ReflectiveOperationException {
        for (Method method : PitForge.class.getMethods()) {
            if (method.getName().equals(name)) {
                String[] parts = written.isEmpty() ? new String[0] : written.split(", ");
                Object[] values = new Object[parts.length];
                for (int i = 0; i < parts.length; i++) {
                    values[i] = parts[i].charAt(0) == '\'' ? (Object) parts[i].charAt(1) : Integer.valueOf(parts[i]);
                }
                Object got = method.invoke(mine, values);
                return got instanceof Character ? "'" + got + "'" : String.valueOf(got);
            }
        }
        return "no such call";
    }

    private void calls(String page) {
        for (Method method : PitForge.class.getDeclaredMethods()) {
            if (Modifier.isPublic(method.getModifiers())) {
                check.same("the page names " + method.getName(), page.contains("`" + method.getName() + "("), true);
            }
        }
    }

    private void tests(String page) throws IOException {
        try (DirectoryStream<Path> files = Files.newDirectoryStream(Path.of("src/test/java"), "*Test.java")) {
            for (Path file : files) {
                String name = file.getFileName().toString().replace(".java", "");
                check.same("the page names " + name, page.contains("| `" + name + "` |"), true);
            }
        }
    }
}
