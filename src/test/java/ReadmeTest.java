import java.io.IOException;
import java.lang.reflect.Method;
import java.nio.file.Files;
import java.nio.file.Path;
import java.util.Set;
import java.util.TreeSet;
import java.util.regex.Matcher;
import java.util.regex.Pattern;

/** README.md's example answers what stands behind it, and README.md names every call. */
public final class ReadmeTest {
    private static final Path README = Path.of("README.md");
    private static final Pattern CALL = Pattern.compile("x\\.(\\w+)\\(([-\\w, ]*)\\); +// (-?\\d+)(?::.*)?");
    private static final Pattern TEXT = Pattern.compile("for \\(char sign : \"([^\"]*)\"\\.toCharArray\\(\\)\\) x\\.feed\\(sign\\);");

    public static void main(String[] args) throws IOException {
        String readme = Files.readString(README);
        example(readme);
        allCalls(readme);
        Check.end();
    }

    private static void example(String readme) {
        int from = readme.indexOf("```java\n") + 8;
        Script script = new Script();
        int calls = 0;
        for (String line : readme.substring(from, readme.indexOf("```", from)).split("\n")) {
            Matcher call = CALL.matcher(line);
            Matcher text = TEXT.matcher(line);
            if (call.matches()) {
                calls++;
                String told = (call.group(1) + " " + call.group(2).replace(",", "")).trim();
                Check.due("README: " + line, script.call(told), Long.parseLong(call.group(3)));
            } else if (text.matches()) {
                script.tell("text " + text.group(1));
            } else {
                Check.due("README's line is understood: " + line, line.isEmpty() || line.equals("HandRelay x = new HandRelay();"));
            }
        }
        Check.due("calls in README's example", calls > 20);
    }

    private static void allCalls(String readme) {
        Set<String> named = new TreeSet<>();
        Matcher m = Pattern.compile("(?m)^\\| (`.*`) \\|").matcher(readme);
        while (m.find()) {
            Matcher name = Pattern.compile("`(\\w+)`").matcher(m.group(1));
            while (name.find()) {
                named.add(name.group(1));
            }
        }
        for (Method call : Script.calls()) {
            Check.due("README names " + call.getName(), named.contains(call.getName()));
        }
    }
}
