import java.io.IOException;
import java.lang.reflect.InvocationTargetException;
import java.lang.reflect.Method;
import java.lang.reflect.Modifier;
import java.nio.file.Files;
import java.nio.file.Path;
import java.util.Map;
import java.util.TreeMap;
import java.util.regex.Matcher;
import java.util.regex.Pattern;

/** The answers that README.md tells are those that the class gives, and it names every call. */
public final class ReadmeTest {
    private static final Path README = Path.of("README.md");
    private static final int FEWEST_LINES = 12;
    private static int wrong = 0;

    public static void main(String[] args) throws IOException {
        String readme = Files.readString(README);
        Map<String, Method> calls = new TreeMap<>();
        for (Method method : BackLenses.class.getDeclaredMethods()) {
            if (Modifier.isPublic(method.getModifiers())) {
                calls.put(method.getName(), method);
            }
        }
        int lines = example(readme, calls);
        for (String name : calls.keySet()) {
            if (!readme.contains("`" + name + "`")) {
                complain("does not name " + name);
            }
        }
        if (!readme.contains(".ci/run")) {
            complain("does not say how the tests are run");
        }
        if (lines < FEWEST_LINES) {
            complain("has but " + lines + " lines with an answer");
        }
        System.out.println(calls.size() + " calls, " + lines + " answers of README.md, " + wrong + " not as due");
        if (wrong != 0) {
            System.exit(1);
        }
    }

    private static void complain(String what) {
        wrong++;
        System.out.println("README.md " + what);
    }

    /** Does what the first piece of Java in it does. */
    private static int example(String readme, Map<String, Method> calls) {
        String code = readme.replaceAll("(?s).*?```java\n(.*?)```.*", "$1");
        BackLenses x = new BackLenses();
        Matcher text = Pattern.compile("for \\(char c : \"([^\"]*)\"").matcher(code);
        if (text.find()) {
            text.group(1).chars().forEach(x::feed);
        }
        Matcher line = Pattern.compile("(?m)^(x\\.(\\w+)\\(([^)]*)\\);) +// (-?\\d+): ").matcher(code);
        int lines = 0;
        while (line.find()) {
            lines++;
            String got = answer(x, calls.get(line.group(2)), line.group(3));
            if (!got.equals(line.group(4))) {
                complain("tells " + line.group(4) + " for " + line.group(1) + " where " + got + " is answered");
            }
        }
        return lines;
    }

    private static String answer(BackLenses x, Method call, String list) {
        String[] words = list.isEmpty() ? new String[0] : list.split(", ");
        Object[] args = new Object[words.length];
        for (int i = 0; i < words.length; i++) {
            args[i] = Integer.parseInt(words[i]);
        }
        try {
            return String.valueOf(call.invoke(x, args));
        } catch (IllegalAccessException | InvocationTargetException e) {
            return e.toString();
        }
    }
}
