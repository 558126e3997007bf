/** Promises 19 to 27: hits and ways, sites, gaps, rings, calls and recalls. */
public final class TracingTest {
    private static final int MIN = Integer.MIN_VALUE;
    private static final int MAX = Integer.MAX_VALUE;
    private static final int LISTED = 0;
    private static final int FOUND = 1;
    private static final int BUILT = 2;
    private static final int GUESSED = 3;
    private static final Due DUE = new Due();

    public static void main(String[] args) {
        promise19Hit();
        promise19WrongInputs();
        promise20Way();
        promise20FirstOfShortest();
        promise20SureBeforeShort();
        promise20LongestWay();
        promise21Has();
        promise21BestOfSeveral();
        promise22Since();
        promise23Gaps();
        promise23Groups();
        promise24Ring();
        promise25Calls();
        promise25Makers();
        promise26Recall();
        promise27Told();
        everythingFull();
        DUE.close("TracingTest");
    }

    /** Makes 0 .. n - 1, each of part 0 but for the last, which is of part 1: warning 0 says that part 1 is bad. */
    private static MadeOf withLastBad(int makes) {
        MadeOf x = new MadeOf();
        x.part(0);
        x.part(1);
        for (int m = 0; m < makes; m++) {
            x.make(m == makes - 1 ? 1 : 0, 0, 0, m);
        }
        Due.warn(x, "bad 1 any");
        return x;
    }

    private static void wayIs(MadeOf x, int make, int known, int... row) {
        DUE.is("way(0, " + make + ", " + known + ", -1)", x.way(0, make, known, -1), row.length);
        for (int i = 0; i < row.length; i++) {
            DUE.is("way(0, " + make + ", " + known + ", " + i + ")", x.way(0, make, known, i), row[i]);
        }
        for (int wrong : new int[] {row.length, 60, 64, MAX, -2, MIN}) {
            DUE.is("way(0, " + make + ", " + known + ", " + wrong + ")", x.way(0, make, known, wrong), -1);
        }
    }

    private static void promise19Hit() {
        DUE.chapter("promise 19");
        MadeOf x = withLastBad(5);
        DUE.is("hit of the bad one", x.hit(0, 4, 0), 2);
        DUE.is("hit of one without links", x.hit(0, 0, 0), 0);
        x.link(0, 4, GUESSED, 10);
        x.link(1, 0, LISTED, 0);
        x.link(0, 2, BUILT, 20);
        x.link(2, 3, FOUND, 20);
        x.link(3, 4, LISTED, 30);
        DUE.is("hit(0, 0, 9)", x.hit(0, 0, 9), 0);
        DUE.is("hit(0, 0, 10)", x.hit(0, 0, 10), 1);
        DUE.is("hit(0, 1, 10), by a guess further on", x.hit(0, 1, 10), 1);
        DUE.is("hit(0, 2, 29)", x.hit(0, 2, 29), 0);
        DUE.is("hit(0, 0, 30), by sure ones too", x.hit(0, 0, 30), 2);
        DUE.is("hit(0, 1, 30)", x.hit(0, 1, 30), 2);
        x.cut(2, 40);
        DUE.is("hit(0, 1, 39)", x.hit(0, 1, 39), 2);
        DUE.is("hit(0, 1, 40)", x.hit(0, 1, 40), 1);
        x.cut(0, 50);
        DUE.is("hit(0, 1, 50)", x.hit(0, 1, 50), 0);
        // A link is not gone backwards.
        x.link(4, 1, LISTED, 60);
        DUE.is("hit(0, 1, 60)", x.hit(0, 1, 60), 0);
    }

    private static void promise19WrongInputs() {
        DUE.chapter("promises 18 to 20, wrong inputs");
        MadeOf x = withLastBad(2);
        for (int wrong : new int[] {-1, 10001, MIN, MAX}) {
            DUE.is("hit on day " + wrong, x.hit(0, 1, wrong), -1);
            DUE.is("way on day " + wrong, x.way(0, 1, wrong, 0), -1);
            DUE.is("length of the way on day " + wrong, x.way(0, 1, wrong, -1), -1);
        }
        for (int missing : new int[] {-1, 2, 20, 60, 65, MIN, MAX}) {
            DUE.is("hit of make " + missing, x.hit(0, missing, 0), -1);
            DUE.is("hit by warning " + missing, x.hit(missing, 1, 0), -1);
            DUE.is("way of make " + missing, x.way(0, missing, 0, -1), -1);
            DUE.is("way by warning " + missing, x.way(missing, 1, 0, -1), -1);
        }
        DUE.is("hit(1, 1, 0)", x.hit(1, 1, 0), -1);
    }

    private static void promise20Way() {
        DUE.chapter("promise 20");
        MadeOf x = withLastBad(3);
        wayIs(x, 2, 0, 2);
        wayIs(x, 0, 0);
        x.link(0, 1, LISTED, 0);
        wayIs(x, 0, 0);
        x.link(1, 2, FOUND, 5);
        wayIs(x, 0, 5, 0, 1, 2);
        wayIs(x, 1, 5, 1, 2);
        wayIs(x, 0, 4);
        // A ring is no way round, and one that is bad itself needs no link.
        x.link(2, 0, LISTED, 5);
        wayIs(x, 2, 5, 2);
        wayIs(x, 0, 5, 0, 1, 2);
    }

    private static void promise20FirstOfShortest() {
        DUE.chapter("promise 20, the first of the shortest");
        MadeOf x = withLastBad(8);
        int[][] links = {{0, 5}, {0, 2}, {0, 3}, {5, 1}, {2, 6}, {2, 4}, {3, 1}, {1, 7}, {6, 7}, {4, 7}};
        for (int[] l : links) {
            x.link(l[0], l[1], LISTED, 0);
        }
        wayIs(x, 0, 0, 0, 2, 4, 7);
        // A longer one with lower numbers is not it.
        x.link(0, 1, LISTED, 10);
        wayIs(x, 0, 10, 0, 1, 7);
        x.link(0, 7, BUILT, 20);
        wayIs(x, 0, 20, 0, 7);
        // Two that are bad at the same distance: the lower one.
        x.make(1, 9, 9, 9);
        x.link(5, 8, LISTED, 0);
        wayIs(x, 5, 0, 5, 8);
        x.link(5, 7, LISTED, 0);
        wayIs(x, 5, 0, 5, 7);
    }

    private static void promise20SureBeforeShort() {
        DUE.chapter("promise 20, sure ones");
        MadeOf x = withLastBad(4);
        x.link(0, 3, GUESSED, 0);
        x.link(0, 2, LISTED, 10);
        x.link(2, 1, LISTED, 10);
        x.link(1, 3, LISTED, 10);
        wayIs(x, 0, 0, 0, 3);
        wayIs(x, 0, 10, 0, 2, 1, 3);
        x.link(2, 3, GUESSED, 20);
        x.cut(3, 20);
        // Not for sure any more: of all ways the shortest, by guesses and by others.
        wayIs(x, 0, 20, 0, 3);
        wayIs(x, 2, 20, 2, 3);
        // Both alike, one listed and one guessed.
        x.link(0, 3, BUILT, 30);
        DUE.is("hit(0, 0, 30)", x.hit(0, 0, 30), 2);
        wayIs(x, 0, 30, 0, 3);
    }

    private static void promise20LongestWay() {
        DUE.chapter("promise 20, sixty makes");
        MadeOf x = withLastBad(60);
        int[] row = new int[60];
        for (int m = 0; m < 60; m++) {
            row[m] = m;
            x.link(m, (m + 1) % 60, m % 3, 0);
        }
        wayIs(x, 0, 0, row);
        DUE.is("hit(0, 0, 0)", x.hit(0, 0, 0), 2);
        DUE.is("ring(59, 0)", x.ring(59, 0), 1);
        DUE.is("ring(0, 0)", x.ring(0, 0), 1);
    }

    private static void promise21Has() {
        DUE.chapter("promise 21");
        MadeOf x = withLastBad(3);
        x.link(0, 2, GUESSED, 50);
        x.hold(29, 2, 10, 20, 5);
        x.hold(0, 0, 10, 10000, 0);
        x.hold(1, 1, 0, 10000, 0);
        int[][] wanted = {{29, 9, 5, 0}, {29, 10, 5, 2}, {29, 20, 5, 2}, {29, 21, 5, 0}, {29, 15, 4, 0}, {29, 15, 10000, 2},
            {0, 10, 49, 0}, {0, 10, 50, 1}, {0, 9, 50, 0}, {0, 10000, 50, 1}, {1, 10, 50, 0}, {2, 10, 50, 0}};
        for (int[] w : wanted) {
            DUE.is("has(0, " + w[0] + ", " + w[1] + ", " + w[2] + ")", x.has(0, w[0], w[1], w[2]), w[3]);
        }
        for (int wrong : new int[] {-1, 10001, MIN, MAX}) {
            DUE.is("has on day " + wrong, x.has(0, 29, wrong, 5), -1);
            DUE.is("has known on day " + wrong, x.has(0, 29, 10, wrong), -1);
        }
        for (int wrong : new int[] {-1, 30, 61, MIN, MAX}) {
            DUE.is("has at site " + wrong, x.has(0, wrong, 10, 5), -1);
            DUE.is("has by warning " + wrong, x.has(wrong, 29, 10, 5), -1);
        }
        DUE.is("has(1, 29, 10, 5)", x.has(1, 29, 10, 5), -1);
    }

    private static void promise21BestOfSeveral() {
        DUE.chapter("promise 21, several");
        MadeOf x = withLastBad(3);
        x.link(0, 2, GUESSED, 0);
        x.link(1, 2, LISTED, 0);
        x.hold(4, 1, 20, 29, 0);
        x.hold(4, 0, 10, 39, 0);
        x.hold(4, 1, 35, 35, 7);
        DUE.is("has on 10", x.has(0, 4, 10, 0), 1);
        DUE.is("has on 19", x.has(0, 4, 19, 0), 1);
        DUE.is("has on 20", x.has(0, 4, 20, 0), 2);
        DUE.is("has on 29", x.has(0, 4, 29, 0), 2);
        DUE.is("has on 30", x.has(0, 4, 30, 0), 1);
        DUE.is("has on 35", x.has(0, 4, 35, 6), 1);
        DUE.is("has on 35", x.has(0, 4, 35, 7), 2);
        DUE.is("has on 40", x.has(0, 4, 40, 7), 0);
    }

    private static void promise22Since() {
        DUE.chapter("promise 22");
        MadeOf x = withLastBad(3);
        x.hold(3, 2, 100, 200, 0);
        x.hold(3, 0, 50, 60, 0);
        x.hold(3, 2, 20, 30, 9);
        x.hold(3, 1, 0, 10000, 0);
        x.hold(4, 2, 0, 0, 0);
        x.hold(29, 2, 10000, 10000, 0);
        x.link(0, 2, GUESSED, 5);
        DUE.is("since(0, 3, 0)", x.since(0, 3, 0), 100);
        DUE.is("since(0, 3, 5), perhaps", x.since(0, 3, 5), 50);
        DUE.is("since(0, 3, 8)", x.since(0, 3, 8), 50);
        DUE.is("since(0, 3, 9)", x.since(0, 3, 9), 20);
        DUE.is("since(0, 4, 0)", x.since(0, 4, 0), 0);
        DUE.is("since(0, 5, 0)", x.since(0, 5, 0), -1);
        DUE.is("since(0, 29, 0)", x.since(0, 29, 0), 10000);
        for (int wrong : new int[] {-1, 10001, MIN, MAX}) {
            DUE.is("since on day " + wrong, x.since(0, 3, wrong), -1);
        }
        for (int wrong : new int[] {-1, 30, 67, MIN, MAX}) {
            DUE.is("since at site " + wrong, x.since(0, wrong, 0), -1);
            DUE.is("since by warning " + wrong, x.since(wrong, 3, 0), -1);
        }
        DUE.is("since(1, 3, 0)", x.since(1, 3, 0), -1);
    }

    private static void promise23Gaps() {
        DUE.chapter("promise 23");
        MadeOf x = new MadeOf();
        for (int p = 0; p < 6; p++) {
            x.part(0);
            x.make(p, 1, 0, 0);
        }
        x.make(1, 2, 0, 0);
        x.link(0, 1, FOUND, 0);
        x.link(0, 6, FOUND, 0);
        x.link(0, 2, LISTED, 10);
        x.link(0, 3, LISTED, 0);
        x.link(0, 3, LISTED, 0);
        x.link(0, 4, BUILT, 0);
        x.link(0, 5, GUESSED, 0);
        x.link(1, 2, FOUND, 0);
        DUE.is("gaps(0, 0, 0): a part in two makes is one", x.gaps(0, 0, 0), 1);
        DUE.is("gaps(0, 0, 1)", x.gaps(0, 0, 1), 1);
        DUE.is("gaps(0, 10, 1)", x.gaps(0, 10, 1), 2);
        DUE.is("gaps(1, 10, 0)", x.gaps(1, 10, 0), 1);
        DUE.is("gaps(1, 10, 1)", x.gaps(1, 10, 1), 0);
        DUE.is("gaps(2, 10, 0)", x.gaps(2, 10, 0), 0);
        x.link(5, 0, FOUND, 0);
        DUE.is("gaps(5, 10, 0), of part 0", x.gaps(5, 10, 0), 1);
        x.cut(8, 11);
        x.link(5, 0, LISTED, 12);
        DUE.is("gaps(5, 12, 1), of part 0", x.gaps(5, 12, 1), 1);
        // Another make of the part does as well.
        x.link(0, 6, LISTED, 20);
        DUE.is("gaps(0, 20, 0)", x.gaps(0, 20, 0), 0);
        DUE.is("gaps(0, 20, 1)", x.gaps(0, 20, 1), 2);
        x.cut(10, 30);
        DUE.is("gaps(0, 30, 0)", x.gaps(0, 30, 0), 1);
        // What is only built in or guessed neither is a gap nor fills one.
        x.link(0, 4, FOUND, 40);
        x.link(0, 5, LISTED, 40);
        DUE.is("gaps(0, 40, 0)", x.gaps(0, 40, 0), 2);
        DUE.is("gaps(0, 40, 1)", x.gaps(0, 40, 1), 3);
        for (int wrong : new int[] {-1, 10001, MIN, MAX}) {
            DUE.is("gaps on day " + wrong, x.gaps(0, wrong, 0), -1);
        }
        for (int wrong : new int[] {-1, 2, MIN, MAX}) {
            DUE.is("gaps of " + wrong, x.gaps(0, 0, wrong), -1);
        }
        for (int missing : new int[] {-1, 7, 60, MIN, MAX}) {
            DUE.is("gaps of make " + missing, x.gaps(missing, 0, 0), -1);
        }
    }

    private static void promise23Groups() {
        DUE.chapter("promise 23, groups");
        MadeOf x = new MadeOf();
        for (int p = 0; p < 4; p++) {
            x.part(0);
            x.make(p, 1, 0, 0);
        }
        x.link(0, 1, FOUND, 0);
        x.link(0, 2, FOUND, 0);
        x.link(0, 3, LISTED, 0);
        x.join(1, 2, 10);
        x.join(2, 3, 20);
        DUE.is("gaps(0, 0, 0)", x.gaps(0, 0, 0), 2);
        DUE.is("gaps(0, 10, 0): two parts that are one", x.gaps(0, 10, 0), 1);
        DUE.is("gaps(0, 10, 1)", x.gaps(0, 10, 1), 1);
        DUE.is("gaps(0, 20, 0)", x.gaps(0, 20, 0), 0);
        DUE.is("gaps(0, 20, 1)", x.gaps(0, 20, 1), 0);
        x.unlike(1, 3, 30);
        DUE.is("gaps(0, 30, 0)", x.gaps(0, 30, 0), 1);
    }

    private static void promise24Ring() {
        DUE.chapter("promise 24");
        MadeOf x = withLastBad(5);
        x.link(0, 1, LISTED, 0);
        x.link(1, 2, GUESSED, 0);
        x.link(2, 0, BUILT, 10);
        x.link(3, 0, LISTED, 0);
        x.link(2, 4, FOUND, 0);
        for (int m = 0; m < 5; m++) {
            DUE.is("ring(" + m + ", 9)", x.ring(m, 9), 0);
            DUE.is("ring(" + m + ", 10)", x.ring(m, 10), m < 3 ? 1 : 0);
        }
        x.cut(1, 20);
        DUE.is("ring(0, 20)", x.ring(0, 20), 0);
        x.link(4, 2, LISTED, 30);
        DUE.is("ring(4, 30), of two", x.ring(4, 30), 1);
        DUE.is("ring(2, 30), of two", x.ring(2, 30), 1);
        DUE.is("ring(0, 30)", x.ring(0, 30), 0);
        for (int wrong : new int[] {-1, 10001, MIN, MAX}) {
            DUE.is("ring(0, " + wrong + ")", x.ring(0, wrong), -1);
        }
        for (int missing : new int[] {-1, 5, 60, 64, MIN, MAX}) {
            DUE.is("ring(" + missing + ", 0)", x.ring(missing, 0), -1);
        }
    }

    /** Part and make p of maker p, for each of the ten. */
    private static MadeOf withAllMakers() {
        MadeOf x = new MadeOf();
        for (int p = 0; p < 10; p++) {
            x.part(p);
            x.make(p, 1, 0, 0);
        }
        return x;
    }

    private static void promise25Calls() {
        DUE.chapter("promise 25");
        MadeOf x = withAllMakers();
        x.link(0, 1, LISTED, 0);
        x.link(1, 2, FOUND, 0);
        x.link(2, 3, BUILT, 0);
        DUE.is("calls(0), nothing guessed", x.calls(0), 0);
        x.link(9, 8, GUESSED, 10);
        DUE.is("calls(9)", x.calls(9), 0);
        DUE.is("calls(10), either of both", x.calls(10), 1 << 8);
        x.link(9, 0, GUESSED, 20);
        DUE.is("calls(20), one for two", x.calls(20), 1 << 9);
        x.link(8, 0, GUESSED, 30);
        DUE.is("calls(30), two for a ring of three: the lowest bits", x.calls(30), 1 | 1 << 8);
        x.link(7, 6, GUESSED, 40);
        DUE.is("calls(40)", x.calls(40), 1 | 1 << 8 | 1 << 6);
        x.cut(3, 50);
        DUE.is("calls(50)", x.calls(50), 1 | 1 << 6);
        for (int wrong : new int[] {-1, 10001, MIN, MAX}) {
            DUE.is("calls(" + wrong + ")", x.calls(wrong), -1);
        }
    }

    private static void promise25Makers() {
        DUE.chapter("promise 25, makers");
        MadeOf x = withAllMakers();
        x.make(9, 2, 0, 0);
        x.link(9, 10, GUESSED, 0);
        DUE.is("calls(0), both of one maker", x.calls(0), 1 << 9);
        x.link(9, 0, GUESSED, 0);
        DUE.is("calls(0), which settles more", x.calls(0), 1 << 9);
        // The maker is that of the part itself, not of its group.
        x.join(0, 9, 0);
        DUE.is("calls(0), joined", x.calls(0), 1 << 9);
        MadeOf z = withAllMakers();
        for (int p = 1; p < 10; p++) {
            z.make(p, 2, 0, 0);
            z.link(p, 9 + p, GUESSED, 0);
        }
        DUE.is("calls(0), all but the first", z.calls(0), 1022);
        // All with all: nine must be asked, all but the last.
        MadeOf y = withAllMakers();
        for (int a = 0; a < 10; a++) {
            for (int b = a + 1; b < 10; b++) {
                y.link(b, a, GUESSED, 0);
            }
        }
        DUE.is("calls(0), all with all", y.calls(0), 511);
        for (int p = 0; p < 10; p++) {
            y.make(p, 2, 0, 0);
            y.link(p, 10 + p, GUESSED, 1);
        }
        DUE.is("calls(1), each with itself too", y.calls(1), 1023);
    }

    private static void promise26Recall() {
        DUE.chapter("promise 26");
        MadeOf x = withLastBad(3);
        x.link(0, 2, GUESSED, 0);
        x.hold(0, 2, 10, 20, 0);
        x.hold(29, 0, 15, 10000, 0);
        x.hold(5, 1, 0, 10000, 0);
        x.hold(7, 2, 0, 10000, 50);
        x.hold(0, 0, 10, 10000, 0);
        for (int wrong : new int[] {-1, 10001, MIN, MAX}) {
            DUE.refused(x, "recall on day " + wrong, x.recall(0, wrong, 0), -1);
            DUE.refused(x, "recall known on day " + wrong, x.recall(0, 0, wrong), -1);
            DUE.refused(x, "recall of none on day " + wrong, x.recall(9, wrong, 0), -1);
        }
        for (int missing : new int[] {-1, 1, 20, MIN, MAX}) {
            DUE.refused(x, "recall of " + missing, x.recall(missing, 0, 0), -2);
        }
        DUE.accepted(x, "recall(0, 9, 0)", x.recall(0, 9, 0), 0);
        DUE.accepted(x, "recall(0, 10, 0)", x.recall(0, 10, 0), 1);
        DUE.is("told(0)", x.told(0), 1);
        DUE.accepted(x, "recall(0, 15, 0), perhaps too", x.recall(0, 15, 0), 1);
        DUE.is("told(0)", x.told(0), 1 | 1 << 29);
        DUE.accepted(x, "recall(0, 15, 50)", x.recall(0, 15, 50), 1);
        DUE.accepted(x, "recall(0, 15, 50)", x.recall(0, 15, 50), 0);
        DUE.is("told(0)", x.told(0), 1 | 1 << 29 | 1 << 7);
        // Another warning about the same is told anew.
        Due.warn(x, "bad 1 any");
        DUE.accepted(x, "recall(1, 15, 50)", x.recall(1, 15, 50), 3);
    }

    /** All rows but one filled to their ends, as 512 calls have room for no more: each question still has its answer. */
    private static void everythingFull() {
        DUE.chapter("everything full");
        MadeOf x = new MadeOf();
        for (int p = 0; p < 30; p++) {
            x.part(p % 10);
        }
        for (int m = 0; m < 60; m++) {
            x.make(m % 30, m, 0, 0);
        }
        for (int l = 0; l < 200; l++) {
            x.link(l % 59, l % 59 + 1, l < 59 ? GUESSED : l % 2, l);
        }
        for (int h = 0; h < 100; h++) {
            x.hold(h % 30, h % 60, h, 10000, h);
        }
        for (int j = 0; j < 40; j++) {
            x.join(j % 29, j % 29 + 1, j);
        }
        x.unlike(0, 29, 39);
        for (int w = 0; w < 20; w++) {
            Due.warn(x, "bad 29 =59");
        }
        for (int what = 0; what < 7; what++) {
            DUE.is("count(" + what + ")", x.count(what), new int[] {30, 60, 200, 100, 40, 1, 20}[what]);
        }
        DUE.is("quarrels(10000)", x.quarrels(10000), 1);
        DUE.is("group(28, 10000)", x.group(28, 10000), 0);
        DUE.is("group(29, 10000)", x.group(29, 10000), 29);
        DUE.is("bad(19, 59, 10000)", x.bad(19, 59, 10000), 1);
        DUE.is("hit(19, 0, 58)", x.hit(19, 0, 58), 1);
        DUE.is("hit(19, 0, 10000)", x.hit(19, 0, 10000), 2);
        DUE.is("way(19, 0, 10000, -1)", x.way(19, 0, 10000, -1), 60);
        DUE.is("has(19, 0, 10000, 10000)", x.has(19, 0, 10000, 10000), 2);
        DUE.is("since(19, 29, 58)", x.since(19, 29, 58), 29);
        DUE.is("gaps(57, 10000, 0)", x.gaps(57, 10000, 0), 0);
        DUE.is("gaps(58, 10000, 1)", x.gaps(58, 10000, 1), 0);
        DUE.is("ring(0, 10000)", x.ring(0, 10000), 0);
        DUE.is("calls(10000)", x.calls(10000), 1 | 1 << 2 | 1 << 4 | 1 << 6 | 1 << 8);
        DUE.is("recall(19, 10000, 10000)", x.recall(19, 10000, 10000), 30);
    }

    private static void promise27Told() {
        DUE.chapter("promise 27");
        MadeOf x = withLastBad(1);
        Due.warn(x, "bad 1 any");
        for (int site = 0; site < 30; site++) {
            x.hold(site, 0, 0, 10000, 0);
        }
        DUE.is("told(0) ahead of any", x.told(0), 0);
        DUE.is("has tells nobody", x.has(0, 0, 0, 0), 2);
        DUE.is("told(0)", x.told(0), 0);
        DUE.is("recall(0, 0, 0)", x.recall(0, 0, 0), 30);
        DUE.is("told(0)", x.told(0), (1 << 30) - 1);
        DUE.is("told(1)", x.told(1), 0);
        for (int missing : new int[] {-1, 2, 20, MIN, MAX}) {
            DUE.is("told(" + missing + ")", x.told(missing), 0);
        }
        // Who was told stays told, whatever is cut or undone.
        DUE.is("recall(0, 0, 0)", x.recall(0, 0, 0), 0);
        DUE.is("told(0)", x.told(0), (1 << 30) - 1);
    }
}
