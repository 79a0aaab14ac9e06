import java.io.IOException;
import java.nio.file.Files;
import java.nio.file.Path;
import java.util.ArrayList;
import java.util.Arrays;
import java.util.List;
import java.util.regex.Matcher;
import java.util.regex.Pattern;
import java.util.stream.Stream;

/**
 * No sentence of the document, from Terms to the last promise, is without a test: each is quoted where a test
 * shows it. What is due there the tests say; here is only looked whether a sentence was left out.
 */
public final class SentencesTest {
    private static final Path DOCUMENT = Path.of("../shared/DOC.md");
    private static final Path TESTS = Path.of("src/test/java");
    private static final String TEXT = "\"(?:[^\"\\\\\n]|\\\\.)*\"";
    private static final Pattern QUOTED =
        Pattern.compile("(?:says\\(|shows\\(|String words =)\\s*(" + TEXT + "(?:\\s*\\+\\s*" + TEXT + ")*)");
    /** The lines that FaceTest looks at, and those that only name what comes behind them. */
    private static final Pattern OF_THE_FACE = Pattern.compile("(?m)^(?:#.*|```.*|Ahead of the calls .*|The constants: .*)$");
    private static final Pattern NAME_AHEAD = Pattern.compile("(?m)^(?:==== \\d |`[^`]*`: )");

    public static void main(String[] args) throws IOException {
        String told = NAME_AHEAD.matcher(OF_THE_FACE.matcher(terms(Files.readString(DOCUMENT))).replaceAll("")).replaceAll("");
        boolean[] isQuoted = new boolean[told.length()];
        int found = 0;
        for (String quote : quotes()) {
            for (int at = told.indexOf(quote); at >= 0; at = told.indexOf(quote, at + 1)) {
                Arrays.fill(isQuoted, at, at + quote.length(), true);
                found++;
            }
        }
        Check.due("there are quotes", found > 100);
        for (String rest : rests(told, isQuoted)) {
            Check.due("no test quotes \"" + rest + "\"", rest.matches("(?s)(?:\\W|\\b(?:and|or)\\b)*"));
        }
        Check.end();
    }

    /** What the document says of the 512 calls, and all from Terms to the last promise. */
    private static String terms(String document) {
        int calls = document.indexOf("An object is used for");
        int face = document.indexOf("## The public face");
        int terms = document.indexOf("## Terms");
        int end = document.indexOf("## Not promised");
        Check.due("the document has its parts", calls > 0 && face > calls && terms > face && end > terms);
        return document.substring(calls, face) + document.substring(terms, end);
    }

    private static List<String> quotes() throws IOException {
        List<String> all = new ArrayList<>();
        try (Stream<Path> files = Files.list(TESTS)) {
            for (Path file : files.sorted().toList()) {
                Matcher m = QUOTED.matcher(Files.readString(file));
                while (m.find()) {
                    String text = m.group(1).replaceAll("\"\\s*\\+\\s*\"", "");
                    all.add(text.substring(1, text.length() - 1));
                }
            }
        }
        return all;
    }

    private static List<String> rests(String told, boolean[] isQuoted) {
        List<String> all = new ArrayList<>();
        int from = 0;
        for (int at = 0; at <= told.length(); at++) {
            if (at == told.length() || isQuoted[at]) {
                if (at > from) {
                    all.add(told.substring(from, at));
                }
                from = at + 1;
            }
        }
        return all;
    }
}
