import java.io.IOException;
import java.io.UncheckedIOException;
import java.nio.file.Files;
import java.nio.file.Path;

/** Counts answers that are not due, prints each, and ends a test program by them. */
final class Check {
    static final long NO = Long.MIN_VALUE;

    private static final Path DOCUMENT = Path.of("../shared/DOC.md");

    private static int looked;
    private static int wrong;
    private static String quoted = "";
    private static String document = "";

    private Check() {
    }

    static void due(String call, long got, long want) {
        looked++;
        if (got != want) {
            wrong++;
            System.out.println(quoted + call + " answered " + got + ", due is " + want);
        }
    }

    static void due(String call, boolean isSo) {
        due(call, isSo ? 1 : 0, 1);
    }

    /** What is looked at from here on is due by these words, which must stand in the document. */
    static void says(String words) {
        quoted = "\"" + words + "\": ";
        due("the document says so", text().contains(words));
    }

    private static String text() {
        if (document.isEmpty()) {
            try {
                document = Files.readString(DOCUMENT);
            } catch (IOException e) {
                throw new UncheckedIOException(e);
            }
        }
        return document;
    }

    static void feed(HandRelay x, String text) {
        for (int i = 0; i < text.length(); i++) {
            due("feed of \"" + text + "\" isn't refused", x.feed(text.charAt(i)) >= 0);
        }
    }

    /** Feeds a text and reads it. */
    static int read(HandRelay x, String text) {
        feed(x, text);
        return x.read();
    }

    static void end() {
        System.out.println(looked + " answers looked at, " + wrong + " not as due");
        if (wrong != 0) {
            System.exit(1);
        }
    }
}
