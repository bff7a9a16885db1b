import java.lang.reflect.Method;
import java.nio.file.Files;
import java.nio.file.Path;
import java.util.HashMap;
import java.util.Map;
import java.util.regex.Matcher;
import java.util.regex.Pattern;

/** What README.md tells: each call is named, and its example answers as it says. */
public final class ReadmeTest {
    static final Due due = new Due("ReadmeTest");
    static final Pattern WRITTEN = Pattern.compile("\"([^\"]*)\"\\.toCharArray\\(\\)");
    static final Pattern ASKED = Pattern.compile("x\\.(\\w+)\\(([^)]*)\\); +// (-?\\d+|BAD|NO|FULL|NONE)\\b");
    static final Map<String, Integer> NAMED = Map.of("BAD", TreePasses.BAD, "NO", TreePasses.NO, "FULL", TreePasses.FULL, "NONE", TreePasses.NONE);

    static Map<String, Method> calls() {
        Map<String, Method> calls = new HashMap<>();
        for (Method call : TreePasses.class.getDeclaredMethods()) {
            if (java.lang.reflect.Modifier.isPublic(call.getModifiers())) {
                calls.put(call.getName(), call);
            }
        }
        return calls;
    }

    static Object[] numbers(String row) {
        String[] signs = row.isEmpty() ? new String[0] : row.split(", ");
        Object[] numbers = new Object[signs.length];
        for (int i = 0; i < signs.length; i++) {
            numbers[i] = Integer.valueOf(signs[i]);
        }
        return numbers;
    }

    static void example(String page) throws Exception {
        TreePasses x = new TreePasses();
        int asked = 0;
        for (String line : page.split("\n")) {
            Matcher written = WRITTEN.matcher(line);
            if (written.find()) {
                for (char sign : written.group(1).toCharArray()) {
                    x.write(sign);
                }
            }
            Matcher call = ASKED.matcher(line);
            if (call.find()) {
                Object got = calls().get(call.group(1)).invoke(x, numbers(call.group(2)));
                String want = call.group(3);
                due.is(line.trim(), (Integer) got, NAMED.containsKey(want) ? NAMED.get(want) : Integer.parseInt(want));
                asked++;
            }
        }
        due.isTrue("an example of " + asked + " calls", asked >= 20);
    }

    static void names(String page) {
        for (Method call : calls().values()) {
            due.isTrue(call.getName() + " is told", page.contains("`" + call.getName() + "("));
        }
        for (Map.Entry<String, Integer> named : NAMED.entrySet()) {
            due.isTrue(named.getKey() + " is told", page.contains("`" + named.getKey() + "` (" + named.getValue() + ")"));
        }
        due.isTrue("how the tests are run", page.contains(".ci/run"));
    }

    public static void main(String[] args) throws Exception {
        String page = Files.readString(Path.of("README.md"));
        example(page);
        names(page);
        due.end();
    }
}
