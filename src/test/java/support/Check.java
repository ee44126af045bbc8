import java.nio.charset.StandardCharsets;
import java.util.function.IntUnaryOperator;

/** What the tests share: answers compared, and texts fed onto a tape. */
final class Check {
    private int right = 0;
    private int wrong = 0;
    private String head = "";

    void head(String text) {
        head = text;
    }

    void due(String call, long got, long want) {
        if (got == want) {
            right++;
            return;
        }
        wrong++;
        if (wrong <= 40) {
            System.out.println(head + ": " + call + " answered " + got + ", due is " + want);
        }
    }

    void due(String call, String got, String want) {
        due(call + " '" + got + "' like '" + want + "'", got.equals(want) ? 1 : 0, 1);
    }

    boolean hasWrong() {
        return wrong > 0;
    }

    /** Ends the machine with 1 if an answer was wrong, or if there was none at all. */
    void close() {
        System.out.println(right + " answers as due, " + wrong + " not");
        if (wrong > 0 || right == 0) {
            System.exit(1);
        }
    }

    /** The text alone is on the tape then. */
    static void tape(StyledRuns x, String text) {
        x.end(0);
        byte[] bytes = text.getBytes(StandardCharsets.ISO_8859_1);
        for (int k = 0; k < bytes.length; k += 20) {
            x.feed(four(bytes, k), four(bytes, k + 4), four(bytes, k + 8), four(bytes, k + 12), four(bytes, k + 16));
        }
        x.end(bytes.length);
    }

    static int four(byte[] bytes, int k) {
        int number = 0;
        for (int j = k; j < k + 4; j++) {
            number = number << 8 | (j < bytes.length ? bytes[j] & 255 : 0);
        }
        return number;
    }

    /** The text comes onto the tape, and from there as letters at a place. */
    static int type(StyledRuns x, String text, int place) {
        tape(x, text);
        return x.type(place);
    }

    static int swap(StyledRuns x, String text, int from, int to) {
        tape(x, text);
        return x.swap(from, to);
    }

    static int read(StyledRuns x, String text) {
        tape(x, text);
        return x.read();
    }

    /** One call a byte, since an object is used for 512 calls at most. */
    static String tapeOf(StyledRuns x) {
        return signs(x::tape, 400);
    }

    static String lettersOf(StyledRuns x) {
        return signs(x::letter, 200);
    }

    private static String signs(IntUnaryOperator row, int most) {
        StringBuilder text = new StringBuilder();
        int sign = row.applyAsInt(0);
        for (int k = 1; k <= most && sign != StyledRuns.NONE; k++) {
            text.append((char) sign);
            sign = row.applyAsInt(k);
        }
        return text.toString();
    }

    /** A new object with these letters, all plain. */
    static StyledRuns typed(String letters) {
        StyledRuns x = new StyledRuns();
        type(x, letters, 0);
        return x;
    }

    /** A new object with what a marked text says. */
    static StyledRuns marked(String text) {
        StyledRuns x = new StyledRuns();
        read(x, text);
        return x;
    }
}
