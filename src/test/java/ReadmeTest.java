import java.lang.reflect.Method;
import java.lang.reflect.Modifier;
import java.nio.charset.StandardCharsets;
import java.nio.file.Files;
import java.nio.file.Paths;
import java.util.List;
import java.util.regex.Matcher;
import java.util.regex.Pattern;

/** README.md tells the truth: each of its calls, from "limiter." to the answer behind "//", answers so. */
final class ReadmeTest {
    private static final Checks CHECKS = new Checks("ReadmeTest");
    private static final Pattern CALL = Pattern.compile("limiter\\.(\\w+)\\((.*)\\); // (-?\\w+)(:.*)?");

    private static RateLimiter limiter;
    private static String setup = "";
    private static int calls;

    public static void main(String[] args) throws Exception {
        List<String> lines = Files.readAllLines(Paths.get("README.md"), StandardCharsets.UTF_8);
        String block = "";
        for (String line : lines) {
            if (line.startsWith("```")) {
                block = line.substring(3);
            } else if (block.equals("setup")) {
                setup += line + "\n";
            } else if (block.equals("java")) {
                CHECKS.test(line, () -> take(line));
            }
        }
        CHECKS.due("calls in README.md, more than 40", calls > 40, true);
        table(String.join("\n", lines));
        CHECKS.finish();
    }

    private static void take(String line) {
        Matcher call = CALL.matcher(line);
        if (line.equals("RateLimiter limiter = new RateLimiter();")) {
            limiter = new RateLimiter();
        } else if (line.startsWith("load(limiter, text); // ")) {
            CHECKS.due(line, Checks.load(limiter, setup), Integer.parseInt(line.substring(24)));
        } else if (call.matches()) {
            CHECKS.due(line, answer(call.group(1), call.group(2)), call.group(3));
            calls++;
        }
        CHECKS.due("an answer behind each call: " + line, !line.startsWith("limiter.") || call.matches(), true);
    }

    private static String answer(String name, String list) {
        String[] texts = list.isEmpty() ? new String[0] : list.split(", ");
        Class<?>[] types = new Class<?>[texts.length];
        Object[] values = new Object[texts.length];
        for (int i = 0; i < texts.length; i++) {
            types[i] = int.class;
            values[i] = Integer.decode(texts[i]);
        }
        try {
            return String.valueOf(RateLimiter.class.getMethod(name, types).invoke(limiter, values));
        } catch (ReflectiveOperationException wrong) {
            throw new IllegalArgumentException("README.md names no call of the class: " + name, wrong);
        }
    }

    private static void table(String readme) {
        for (Method method : RateLimiter.class.getDeclaredMethods()) {
            if (Modifier.isPublic(method.getModifiers())) {
                CHECKS.due("in the table: " + method.getName(), readme.contains("`" + method.getName() + "`"), true);
            }
        }
    }
}
