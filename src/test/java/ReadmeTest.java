import java.io.IOException;
import java.lang.reflect.Method;
import java.nio.file.Files;
import java.nio.file.Path;
import java.util.regex.Matcher;
import java.util.regex.Pattern;

/** The example in README.md: each of its calls is made, and answers what the comment behind it tells. */
public final class ReadmeTest {
    private static final Pattern CALL = Pattern.compile("mill\\.(\\w+)\\((.*?)\\); +// (-?\\w+)(.*)");
    private static final Pattern QUOTED = Pattern.compile("\"(.*)\"");

    private final DigitMill mill = new DigitMill();

    public static void main(String[] args) throws IOException, ReflectiveOperationException {
        String readme = Files.readString(Path.of("README.md"));
        int from = readme.indexOf("```java\n") + "```java\n".length();
        ReadmeTest test = new ReadmeTest();
        for (String line : readme.substring(from, readme.indexOf("```", from)).split("\n")) {
            test.call(line);
        }
        Checks.finish("ReadmeTest");
    }

    private void call(String line) throws ReflectiveOperationException {
        Matcher call = CALL.matcher(line);
        if (!call.matches()) {
            boolean noCall = line.isEmpty() || line.startsWith("//") || line.equals("DigitMill mill = new DigitMill();");
            Checks.due("README.md: a line that is understood: " + line, noCall, true);
            return;
        }
        Object answer = method(call.group(1)).invoke(mill, arguments(call.group(1), call.group(2)));
        Checks.due("README.md: " + line, asLong(answer), asLong(literal(call.group(3), answer.getClass())));
        Matcher text = QUOTED.matcher(call.group(4));
        if (line.contains("TEXT OUT") && text.find()) {
            Checks.dueTextHereAndThere("README.md: " + line, mill, text.group(1));
        }
    }

    private static Method method(String name) {
        for (Method method : DigitMill.class.getMethods()) {
            if (method.getName().equals(name)) {
                return method;
            }
        }
        throw new IllegalArgumentException("README.md calls " + name + ", which DigitMill does not have");
    }

    private static Object[] arguments(String name, String written) {
        Class<?>[] types = method(name).getParameterTypes();
        Object[] arguments = new Object[types.length];
        String[] parts = written.split(", ");
        for (int k = 0; k < types.length; k++) {
            arguments[k] = literal(parts[k], types[k]);
        }
        return arguments;
    }

    private static Object literal(String written, Class<?> type) {
        if (type == boolean.class || type == Boolean.class) {
            return Boolean.valueOf(written);
        }
        Long number = Long.decode(written.replace("_", "").replace("L", ""));
        return type == int.class || type == Integer.class ? (Object) number.intValue() : number;
    }

    private static long asLong(Object answer) {
        return answer instanceof Boolean yes ? yes ? 1 : 0 : ((Number) answer).longValue();
    }
}
