import java.io.IOException;
import java.lang.reflect.Method;
import java.nio.file.Files;
import java.nio.file.Path;
import java.util.regex.Matcher;
import java.util.regex.Pattern;

/** The examples of README.md: each call answers what the comment behind it tells first. */
public final class ReadmeTest {
    private static final Pattern EXAMPLE = Pattern.compile("(?s)```java\n(.*?)```");
    private static final Pattern CALL = Pattern.compile("x\\.(\\w+)\\(([^)]*)\\);(?: *// (-?\\d+|true|false):)?.*");

    private static final Due DUE = new Due("readme");

    public static void main(String[] args) throws IOException, ReflectiveOperationException {
        Matcher example = EXAMPLE.matcher(Files.readString(Path.of("README.md")));
        int calls = 0;
        while (example.find()) {
            calls += callAll(example.group(1));
        }
        DUE.isTrue("README.md has examples", calls > 0);
        everyCallIsTold(Files.readString(Path.of("README.md")));
        DUE.end();
    }

    private static int callAll(String example) throws ReflectiveOperationException {
        TwinNetwork x = new TwinNetwork();
        int calls = 0;
        for (String line : example.split("\n")) {
            Matcher call = CALL.matcher(line);
            if (call.matches()) {
                calls++;
                Object answer = method(call.group(1)).invoke(x, numbers(call.group(2)));
                boolean isVoid = answer == null;
                String told = call.group(3);
                DUE.isTrue(line + " answers " + answer, isVoid ? told == null : answer.toString().equals(told));
            }
        }
        return calls;
    }

    private static void everyCallIsTold(String text) {
        for (Method method : TwinNetwork.class.getMethods()) {
            if (method.getDeclaringClass() == TwinNetwork.class) {
                DUE.isTrue(method.getName() + " stands in the table", text.contains("| `" + method.getName() + "("));
            }
        }
    }

    private static Method method(String name) {
        for (Method method : TwinNetwork.class.getMethods()) {
            if (method.getName().equals(name)) {
                return method;
            }
        }
        throw new IllegalArgumentException("README.md calls " + name);
    }

    private static Object[] numbers(String arguments) {
        String[] told = arguments.split(",");
        Object[] numbers = new Object[told.length];
        for (int i = 0; i < told.length; i++) {
            numbers[i] = number(told[i]);
        }
        return numbers;
    }

    /** A number, or a sum of products, as in 4 * 25 + 2. */
    private static int number(String told) {
        int sum = 0;
        for (String part : told.split("\\+")) {
            int product = 1;
            for (String factor : part.split("\\*")) {
                product *= Integer.parseInt(factor.strip());
            }
            sum += product;
        }
        return sum;
    }
}
