import java.io.IOException;
import java.lang.reflect.Method;
import java.lang.reflect.Modifier;
import java.nio.file.Files;
import java.nio.file.Path;
import java.util.regex.Matcher;
import java.util.regex.Pattern;

/** What README.md tells of the class's use: its example, run call by call, and a row for each method. */
public final class ReadmeTest {
    private static final Pattern EXAMPLE = Pattern.compile("```java\n(.*?)```", Pattern.DOTALL);
    private static final Pattern NEW = Pattern.compile("PagerHouse house = new PagerHouse\\((.*)\\); +// .*");
    private static final Pattern CALL = Pattern.compile("house\\.(\\w+)\\((.*)\\); +// ([^: ]+): .*");

    private ReadmeTest() {
    }

    public static void main(String[] args) throws IOException {
        Watchdog.start();
        String readme = Files.readString(Path.of("README.md"));
        for (Method method : PagerHouse.class.getDeclaredMethods()) {
            if (Modifier.isPublic(method.getModifiers())) {
                need("a row for " + method.getName(), readme.contains("\n| `" + method.getName() + "("));
            }
        }
        Matcher example = EXAMPLE.matcher(readme);
        need("an example", example.find());
        Script.sentence("README.md", script(example.group(1)));
        Script.finish();
    }

    private static void need(String what, boolean isThere) {
        if (!isThere) {
            System.out.println("README.md has not: " + what);
            System.exit(1);
        }
    }

    private static String script(String example) {
        StringBuilder script = new StringBuilder();
        for (String line : example.split("\n")) {
            Matcher made = NEW.matcher(line);
            Matcher call = CALL.matcher(line);
            if (made.matches()) {
                script.append("new ").append(bare(made.group(1))).append('\n');
            } else {
                need("sense in the line " + line, call.matches());
                String due = call.group(3).equals("-1") ? "NONE" : call.group(3);
                script.append(call.group(1)).append(' ').append(bare(call.group(2))).append(" = ").append(due).append('\n');
            }
        }
        return script.toString();
    }

    private static String bare(String arguments) {
        return arguments.replace(",", "");
    }
}
