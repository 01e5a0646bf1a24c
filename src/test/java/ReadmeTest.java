import java.io.IOException;
import java.lang.reflect.InvocationTargetException;
import java.lang.reflect.Method;
import java.nio.file.Files;
import java.nio.file.Path;
import java.util.regex.Matcher;
import java.util.regex.Pattern;

/** README.md: each of its calls answers what stands behind it, in its order on one object. */
public final class ReadmeTest {
    private static final Check CHECK = new Check();
    private static final Pattern CALL = Pattern.compile("(tell|x\\.(\\w+))\\((.*?)\\); +// (-?\\d+).*");
    private static final int CALLS = 512;

    public static void main(String[] args) throws IOException, ReflectiveOperationException {
        String page = Files.readString(Path.of("README.md"));
        String house = page.substring(page.indexOf("```text\n") + 8);
        house = house.substring(0, house.indexOf("```"));
        helperIsThatOfTheTests(page);
        tests(page);
        OrderMerge x = new OrderMerge();
        int rows = 0;
        for (String row : page.split("\n")) {
            Matcher call = CALL.matcher(row);
            if (call.matches()) {
                rows++;
                CHECK.due("README.md: " + row, answer(x, call, house), Long.parseLong(call.group(4)));
            } else {
                CHECK.due("README.md, a call without its answer: " + row, row.startsWith("x.") ? 1 : 0, 0);
            }
        }
        CHECK.due("an object's calls are not too many", rows < CALLS / 2 ? 1 : 0, 1);
        CHECK.due("all calls but feed() and house() stand there", untold(page), 0);
        CHECK.end();
    }

    private static long answer(OrderMerge x, Matcher call, String house)
        throws IllegalAccessException, InvocationTargetException {
        String[] words = call.group(3).split(", *");
        if (call.group(2) == null) {
            return Check.tell(x, words[1].equals("text") ? house : words[1].replace("\"", ""));
        }
        for (Method m : OrderMerge.class.getDeclaredMethods()) {
            if (m.getName().equals(call.group(2))) {
                Object[] arguments = new Object[m.getParameterCount()];
                for (int i = 0; i < arguments.length; i++) {
                    boolean wide = m.getParameterTypes()[i] == long.class;
                    arguments[i] = wide ? (Object) Long.valueOf(words[i]) : (Object) Integer.valueOf(words[i]);
                }
                return ((Number) m.invoke(x, arguments)).longValue();
            }
        }
        throw new IllegalStateException("README.md names a call that is none: " + call.group());
    }

    private static int untold(String page) throws IOException {
        int missing = 0;
        Matcher face = Pattern.compile("    public (?:int|long) (\\w+)\\(")
            .matcher(Files.readString(Path.of("../shared/DOC.md")));
        while (face.find()) {
            if (!page.contains("\nx." + face.group(1) + "(") && !face.group(1).matches("feed|house")) {
                missing++;
                System.out.println("README.md has no " + face.group(1));
            }
        }
        return missing;
    }

    private static void helperIsThatOfTheTests(String page) throws IOException {
        String own = Files.readString(Path.of("src/test/java/Check.java"));
        String helper = page.substring(page.indexOf("```java\n    static int tell") + 8);
        helper = helper.substring(0, helper.indexOf("```"));
        CHECK.due("tell() of README.md is that of Check.java", own.contains(helper) ? 1 : 0, 1);
    }

    /** Each test stands in the tables, and each one there is a test. */
    private static void tests(String page) throws IOException {
        Matcher named = Pattern.compile("\\| `(\\w+Test)` \\|").matcher(page);
        int rows = 0;
        while (named.find()) {
            rows++;
            boolean there = Files.exists(Path.of("src/test/java/" + named.group(1) + ".java"));
            CHECK.due("README.md names " + named.group(1), there ? 1 : 0, 1);
        }
        try (var files = Files.list(Path.of("src/test/java"))) {
            CHECK.due("so many tests", rows, files.filter(f -> f.toString().endsWith("Test.java")).count());
        }
    }
}
