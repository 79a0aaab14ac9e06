/** Counts answers that are not due, prints each, and ends a test program by them. */
final class Check {
    static final long NO = Long.MIN_VALUE;

    private static int looked;
    private static int wrong;

    private Check() {
    }

    static void due(String call, long got, long want) {
        looked++;
        if (got != want) {
            wrong++;
            System.out.println(call + " answered " + got + ", due is " + want);
        }
    }

    static void due(String call, boolean isSo) {
        due(call, isSo ? 1 : 0, 1);
    }

    static void feed(HandRelay x, String text) {
        for (int i = 0; i < text.length(); i++) {
            x.feed(text.charAt(i));
        }
    }

    /** Feeds a text and reads it. */
    static int read(HandRelay x, String text) {
        feed(x, text);
        return x.read();
    }

    static void end() {
        System.out.println(looked + " answers looked at, " + wrong + " not as due");
        if (wrong != 0) {
            System.exit(1);
        }
    }
}
