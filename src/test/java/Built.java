import java.util.stream.IntStream;

/** Objects for the tests, built by few calls, as one is good for 512; and numbers that can't be. */
final class Built {
    static final int LISTED = 0;
    static final int FOUND = 1;
    static final int BUILT = 2;
    static final int GUESSED = 3;
    static final int LAST_DAY = 10_000;
    static final int MIN = Integer.MIN_VALUE;
    static final int MAX = Integer.MAX_VALUE;

    private Built() {
    }

    /** Parts 0 .. n - 1, part p of maker p % 10. */
    static MadeOf parts(int n) {
        MadeOf x = new MadeOf();
        for (int p = 0; p < n; p++) {
            x.part(p % 10);
        }
        return x;
    }

    /** Part 0 in makes 0 .. n - 1, make m of version 0.0.m. */
    static MadeOf makes(int n) {
        MadeOf x = parts(1);
        for (int m = 0; m < n; m++) {
            x.make(0, 0, 0, m);
        }
        return x;
    }

    /** Parts 0 .. n - 1, each in one make: make m is part m in version 1.0.0. */
    static MadeOf things(int n) {
        MadeOf x = parts(n);
        for (int p = 0; p < n; p++) {
            x.make(p, 1, 0, 0);
        }
        return x;
    }

    /** Makes 0 .. n - 1, the last one of part 1 and all others of part 0; by warning 0 the last one alone is bad. */
    static MadeOf lastBad(int n) {
        MadeOf x = parts(2);
        for (int m = 0; m < n; m++) {
            x.make(m == n - 1 ? 1 : 0, 0, 0, m);
        }
        Due.warn(x, "bad 1 any");
        return x;
    }

    /** Links m to m + 1 of a sort, known from day 0 on, for makes from .. to - 1. */
    static MadeOf chain(MadeOf x, int from, int to, int sort) {
        for (int m = from; m < to; m++) {
            x.link(m, m + 1, sort, 0);
        }
        return x;
    }

    /** Numbers that are not in 0 .. last: next to both ends, far off, and such as lose their high bits by a wrap-around. */
    static int[] outside(int last) {
        int[] some = {-1, -2, -64, -256, -1000, -65_536, MIN, MIN + 1, last + 1, last + 2, 32, 64, 100, 128, 256, 512, 1_000,
            1_024, 32_768, 65_536, 65_536 + Math.max(last, 0), 1 << 30, MAX - 1, MAX};
        return IntStream.of(some).filter(n -> n < 0 || n > last).distinct().toArray();
    }

    /** Numbers of what is not there, if there are so many. */
    static int[] missing(int count) {
        return outside(count - 1);
    }

    /** Days that there are not. */
    static int[] noDays() {
        return outside(LAST_DAY);
    }
}
