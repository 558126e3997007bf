import java.util.function.IntUnaryOperator;

/** Counts the answers that are not as due, and prints them. */
final class Due {
    private static final int FEED = 20;

    private int checked = 0;
    private int wrong = 0;
    private String chapter = "";

    void chapter(String name) {
        chapter = name;
    }

    void is(String call, long got, long want) {
        checked++;
        if (got != want) {
            wrong++;
            System.out.println(chapter + ": " + call + " answered " + got + ", due is " + want);
        }
    }

    /** A call that is refused: its answer, and what status() tells of it. */
    void refused(MadeOf x, String call, long got, long want) {
        is(call, got, want);
        is("status() after " + call, x.status(), want);
    }

    void accepted(MadeOf x, String call, long got, long want) {
        is(call, got, want);
        is("status() after " + call, x.status(), 0);
    }

    /** A call that is refused alike for each of these numbers. */
    void allRefused(MadeOf x, String call, int[] numbers, IntUnaryOperator answer, int want) {
        for (int n : numbers) {
            refused(x, call + " with " + n, answer.applyAsInt(n), want);
        }
    }

    /** A question that has the same answer for each of these numbers. */
    void all(String call, int[] numbers, IntUnaryOperator answer, int want) {
        for (int n : numbers) {
            is(call + " with " + n, answer.applyAsInt(n), want);
        }
    }

    int checked() {
        return checked;
    }

    void close(String test) {
        System.out.println(test + ": " + checked + " answers, " + wrong + " not as due");
        if (wrong != 0 || checked == 0) {
            System.exit(1);
        }
    }

    /** Puts a text on the empty tape; its characters are the bytes. */
    static void type(MadeOf x, String text) {
        for (int at = 0; at < text.length(); at += FEED) {
            x.feed(four(text, at), four(text, at + 4), four(text, at + 8), four(text, at + 12), four(text, at + 16));
        }
        x.end(text.length());
    }

    static int warn(MadeOf x, String text) {
        type(x, text);
        return x.warning();
    }

    private static int four(String text, int at) {
        int four = 0;
        for (int i = at; i < at + 4; i++) {
            four = four << 8 | (i < text.length() ? text.charAt(i) & 255 : 0);
        }
        return four;
    }
}
