import java.io.IOException;
import java.nio.file.Files;
import java.nio.file.Path;
import java.util.regex.Matcher;
import java.util.regex.Pattern;

/** What of LANGUAGE.md can be seen from the text of the class: words that are ruled out, and lengths. */
public final class LanguageTest {
    private static final Path SOURCE = Path.of("src/main/java/HandRelay.java");
    private static final int LONGEST_METHOD = 60;
    private static final Pattern HEAD = Pattern.compile("^( {4}| {8})[A-Za-z][\\w\\[\\]<> ]*\\(([^)]*)\\) \\{$");

    public static void main(String[] args) throws IOException {
        String bare = Files.readString(SOURCE).replaceAll("(?s)/\\*.*?\\*/", "").replaceAll("//[^\n]*", "");
        String code = bare.replaceAll("\"[^\"\n]*\"", "\"\"");
        words(code);
        imports(code);
        methods(code);
        plainSigns(bare);
        Check.end();
    }

    private static void words(String code) {
        String[] ruledOut = {"throw", "throws", "try", "catch", "finally", "synchronized", "assert", "package", "native",
            "volatile", "var", "yield", "protected", "Object", "System\\.(?!arraycopy)", "equals", "hashCode",
            "toString", "Thread", "Random", "\\w+Exact"};
        for (String word : ruledOut) {
            Check.due("no " + word, !Pattern.compile("\\b" + word + (word.endsWith(")") ? "" : "\\b")).matcher(code).find());
        }
        Check.due("no lambda", !code.contains("->"));
        Check.due("no method reference", !code.contains("::"));
        Check.due("no static block", !Pattern.compile("static\\s*\\{").matcher(code).find());
        Check.due("no joining of texts by +", !Pattern.compile("\"\\s*\\+|\\+\\s*\"").matcher(code).find());
    }

    private static void imports(String code) {
        Matcher m = Pattern.compile("(?m)^import (.*);$").matcher(code);
        while (m.find()) {
            Check.due("import " + m.group(1), m.group(1).matches("java\\.util\\.(Arrays|ArrayList|List|Iterator)"));
        }
    }

    private static void methods(String code) {
        String[] lines = code.split("\n");
        int found = 0;
        for (int i = 0; i < lines.length; i++) {
            Matcher head = HEAD.matcher(lines[i]);
            if (head.matches()) {
                found++;
                int end = i;
                while (!lines[end].equals(head.group(1) + "}")) {
                    end++;
                }
                Check.due("short: " + lines[i].trim(), end - i <= LONGEST_METHOD);
                Check.due("seven parameters: " + lines[i].trim(), head.group(2).split(",").length <= 7);
            }
        }
        Check.due("methods were found", found > 80);
    }

    private static void plainSigns(String code) {
        Check.due("signs 1 to 127", code.chars().allMatch(c -> c >= 1 && c <= 127));
    }
}
