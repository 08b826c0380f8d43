import java.lang.reflect.Method;
import java.nio.file.Files;
import java.nio.file.Path;
import java.util.regex.Matcher;
import java.util.regex.Pattern;

/** The example in README.md: each call with the answer that stands behind it. */
public final class ReadmeTests {
    private static final Pattern TEXT = Pattern.compile("String text = \"([^\"]*)\";");
    private static final Pattern CALL = Pattern.compile("(?m)^x\\.((\\w+)\\(([-\\d, ]*)\\)); +// (-?\\d+)");

    public static void main(String[] args) throws Exception {
        Check.part("README.md");
        String readme = Files.readString(Path.of("README.md"));
        CoreTests x = new CoreTests();
        Matcher text = TEXT.matcher(readme);
        Check.holds("it tells a text", text.find());
        Check.written(x, text.group(1));
        Matcher call = CALL.matcher(readme);
        int calls = 0;
        while (call.find()) {
            Check.due(call.group(1), answer(x, call.group(2), call.group(3)), Integer.parseInt(call.group(4)));
            calls++;
        }
        Check.due("how many calls it tells with an answer", calls, readme.split("\nx\\.").length - 1);
        refusals(readme);
        Check.end();
    }

    private static int answer(CoreTests x, String name, String numbers) throws Exception {
        String[] parts = numbers.isEmpty() ? new String[0] : numbers.split(", *");
        Class<?>[] types = new Class<?>[parts.length];
        Object[] values = new Object[parts.length];
        for (int i = 0; i < parts.length; i++) {
            types[i] = int.class;
            values[i] = Integer.parseInt(parts[i]);
        }
        Method method = CoreTests.class.getMethod(name, types);
        return (int) method.invoke(x, values);
    }

    private static void refusals(String readme) {
        String[] names = {"BAD", "NO", "FULL", "NONE"};
        int[] values = {CoreTests.BAD, CoreTests.NO, CoreTests.FULL, CoreTests.NONE};
        for (int i = 0; i < names.length; i++) {
            Check.holds("it tells " + names[i], readme.contains("| `" + names[i] + "` (" + values[i] + ") |"));
        }
    }
}
