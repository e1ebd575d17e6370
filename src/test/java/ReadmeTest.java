import java.io.IOException;
import java.lang.reflect.InvocationTargetException;
import java.lang.reflect.Method;
import java.nio.file.Files;
import java.nio.file.Path;
import java.util.ArrayList;
import java.util.Arrays;
import java.util.List;
import java.util.regex.Matcher;
import java.util.regex.Pattern;

/** Makes the calls of README.md, which .ci/run names by its path, and compares what the page says of their answers. */
final class ReadmeTest {
    private static final Pattern CALL = Pattern.compile("auction\\.(\\w+)\\(([^)]*)\\);(?:\\s*// -> ([^: ]+).*)?");
    private static final String NEW = "LowWaterAuction auction = new LowWaterAuction();";

    private ReadmeTest() {
    }

    public static void main(String[] args) throws IOException, ReflectiveOperationException {
        String page = Files.readString(Path.of(args.length == 0 ? "README.md" : args[0]));
        LowWaterAuction auction = new LowWaterAuction();
        int made = 0;
        boolean isCode = false;
        for (String line : page.split("\n")) {
            if (line.startsWith("```")) {
                isCode = line.equals("```java");
            } else if (isCode && !line.equals(NEW)) {
                make(auction, line);
                made++;
            }
        }
        Check.due("README has calls", made > 0, true);
        Check.finish();
    }

    private static void make(LowWaterAuction auction, String line) throws ReflectiveOperationException {
        Matcher call = CALL.matcher(line);
        if (call.matches()) {
            Check.due("README " + line, answer(auction, call.group(1), numbers(call.group(2))), "" + call.group(3));
        } else {
            Check.due("README " + line, "nothing", "a call");
        }
    }

    private static List<Object> numbers(String arguments) {
        List<Object> numbers = new ArrayList<>();
        for (String argument : arguments.split(", ")) {
            if (!argument.isEmpty()) {
                numbers.add(Integer.decode(argument));
            }
        }
        return numbers;
    }

    private static String answer(LowWaterAuction auction, String name, List<Object> numbers) throws ReflectiveOperationException {
        Class<?>[] kinds = new Class<?>[numbers.size()];
        Arrays.fill(kinds, int.class);
        Method method = LowWaterAuction.class.getMethod(name, kinds);
        try {
            return "" + method.invoke(auction, numbers.toArray());
        } catch (InvocationTargetException thrown) {
            return thrown.getCause().getClass().getSimpleName();
        }
    }
}
