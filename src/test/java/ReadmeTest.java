import java.io.IOException;
import java.lang.reflect.Method;
import java.lang.reflect.Modifier;
import java.nio.charset.StandardCharsets;
import java.nio.file.Files;
import java.nio.file.Path;
import java.util.regex.Matcher;
import java.util.regex.Pattern;

/** What README.md says holds: its example answers so, it names every call, every test and how to run them. */
public final class ReadmeTest {
    private static final Pattern CALL = Pattern.compile("(?m)^w\\.(\\w+)\\((.*?)\\);(?:\\s*// (-?\\d+))?");

    private static Object[] arguments(Method method, String written) {
        String[] words = written.isBlank() ? new String[0] : written.split("\\s*,\\s*");
        Object[] arguments = new Object[words.length];
        for (int i = 0; i < words.length; i++) {
            Class<?> type = method.getParameterTypes()[i];
            arguments[i] = type == boolean.class ? (Object) Boolean.valueOf(words[i])
                    : type == long.class ? (Object) Long.valueOf(words[i]) : (Object) Integer.valueOf(words[i]);
        }
        return arguments;
    }

    private static Method method(String name) {
        for (Method method : HushWatch.class.getDeclaredMethods()) {
            if (Modifier.isPublic(method.getModifiers()) && method.getName().equals(name)) {
                return method;
            }
        }
        throw new IllegalArgumentException("README.md has a call that is none: " + name);
    }

    private static void example(String readme) throws ReflectiveOperationException {
        HushWatch w = new HushWatch();
        Matcher calls = CALL.matcher(readme);
        int told = 0;
        while (calls.find()) {
            Method method = method(calls.group(1));
            Object answer = method.invoke(w, arguments(method, calls.group(2)));
            if (calls.group(3) != null) {
                Check.due("README.md: " + calls.group(), ((Number) answer).longValue(), Long.parseLong(calls.group(3)));
                told++;
            }
        }
        Check.due("README.md tells answers", told > 5, true);
    }

    private static void names(String readme) throws IOException {
        for (Method method : HushWatch.class.getDeclaredMethods()) {
            if (Modifier.isPublic(method.getModifiers())) {
                Check.due("README.md names " + method.getName(),
                        Pattern.compile("`" + method.getName() + "[`(]").matcher(readme).find(), true);
            }
        }
        try (var files = Files.list(Path.of("src/test/java"))) {
            for (Path file : files.sorted().toList()) {
                String name = file.getFileName().toString().replace(".java", "");
                Check.due("README.md names " + name, readme.contains("`" + name + "`"), true);
            }
        }
        Check.due("README.md says how to run the tests", readme.contains(".ci/run"), true);
    }

    public static void main(String[] args) throws IOException, ReflectiveOperationException {
        String readme = Files.readString(Path.of("README.md"), StandardCharsets.UTF_8);
        example(readme);
        names(readme);
        Check.finish("ReadmeTest");
    }
}
