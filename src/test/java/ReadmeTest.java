import java.lang.reflect.Method;
import java.lang.reflect.Modifier;
import java.nio.file.Files;
import java.nio.file.Path;
import java.util.regex.Matcher;
import java.util.regex.Pattern;

/** README.md: its example answers as it says there, every call is named, and so are the tests. */
final class ReadmeTest {
    private static final Pattern CALL = Pattern.compile("club\\.(\\w+)\\(([-0-9, ]*)\\); +// (-?\\d+)");
    private static final Pattern TYPED = Pattern.compile("type\\(club, \"([^\"]*)\"\\);");
    private static final Check check = new Check();

    public static void main(String[] args) throws Exception {
        String page = Files.readString(Path.of("README.md"));
        example(page);
        for (Method m : DawnEights.class.getDeclaredMethods()) {
            if (Modifier.isPublic(m.getModifiers())) {
                check.isTrue("README names " + m.getName(), page.contains("`" + m.getName() + "("));
            }
        }
        for (String name : Path.of("src/test/java").toFile().list()) {
            check.isTrue("README names " + name, page.contains("`" + name.replace(".java", "") + "`"));
        }
        check.end("ReadmeTest");
    }

    private static void example(String page) throws Exception {
        int start = page.indexOf("DawnEights club = new DawnEights();");
        check.isTrue("README has an example", start >= 0);
        String[] lines = page.substring(start, page.indexOf("```", start)).split("\n");
        DawnEights club = new DawnEights();
        int calls = 0;
        for (int i = 1; i < lines.length; i++) {
            Matcher call = CALL.matcher(lines[i]);
            Matcher typed = TYPED.matcher(lines[i]);
            if (call.matches()) {
                check.due(lines[i], answer(club, call.group(1), call.group(2)), Long.parseLong(call.group(3)));
                calls++;
            } else if (typed.matches()) {
                Check.type(club, typed.group(1));
            } else {
                check.isTrue("a line that is not run: " + lines[i], lines[i].isBlank() || lines[i].startsWith("//"));
            }
        }
        check.isTrue("the example has calls", calls > 20);
    }

    private static long answer(DawnEights club, String name, String numbers) throws Exception {
        String[] parts = numbers.isBlank() ? new String[0] : numbers.split(", *");
        Class<?>[] types = new Class<?>[parts.length];
        Object[] values = new Object[parts.length];
        for (int i = 0; i < parts.length; i++) {
            types[i] = int.class;
            values[i] = Integer.parseInt(parts[i].trim());
        }
        return ((Number) DawnEights.class.getMethod(name, types).invoke(club, values)).longValue();
    }
}
