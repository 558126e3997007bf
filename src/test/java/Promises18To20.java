/** Sentences of promises 18 to 20: bad, hit, way. */
final class Promises18To20 {
    private static final int LAST = Built.LAST_DAY;
    /** In order, so that each stands next to one that it must be told apart from. */
    private static final int[][] VERSIONS = {{0, 0, 0}, {0, 0, 1}, {0, 0, 999}, {0, 1, 0}, {0, 999, 999}, {1, 0, 0}, {1, 0, 1},
        {1, 1, 999}, {1, 2, 2}, {1, 2, 3}, {1, 2, 4}, {1, 3, 0}, {2, 0, 0}, {2, 1, 1}, {999, 999, 998}, {999, 999, 999}};

    private Promises18To20() {
    }

    private static MadeOf versions() {
        MadeOf x = Built.parts(1);
        for (int[] v : VERSIONS) {
            x.make(0, v[0], v[1], v[2]);
        }
        return x;
    }

    /** By this text exactly the versions from one to another in the row are bad; none, if the first is behind the last. */
    private static void badFromTo(Due due, String tests, int first, int last) {
        MadeOf x = versions();
        due.is("warning() of " + tests, Due.warn(x, "bad 0 " + tests), 0);
        for (int m = 0; m < VERSIONS.length; m++) {
            due.is("bad(0, " + m + ", 0) by " + tests, x.bad(0, m, 0), first <= m && m <= last ? 1 : 0);
        }
    }

    private static void badAre(Due due, String tests, String wanted) {
        MadeOf x = Built.makes(wanted.length());
        due.is("warning() of " + tests, Due.warn(x, "bad 0 " + tests), 0);
        for (int m = 0; m < wanted.length(); m++) {
            due.is("bad(0, " + m + ", 0) by " + tests, x.bad(0, m, 0), wanted.charAt(m) - '0');
        }
    }

    private static void wayIs(Due due, MadeOf x, int make, int known, int... row) {
        due.is("way(0, " + make + ", " + known + ", -1)", x.way(0, make, known, -1), row.length);
        for (int i = 0; i < row.length; i++) {
            due.is("way(0, " + make + ", " + known + ", " + i + ")", x.way(0, make, known, i), row[i]);
        }
        due.is("way(0, " + make + ", " + known + ", " + row.length + ")", x.way(0, make, known, row.length), -1);
    }

    // Promise 18: bad

    @Says(promise = 18, words = "Whether a MAKE is BAD by a WARNING as known on a DAY: 1, 0; NONE.")
    static void badOrNot(Due due) {
        MadeOf x = Built.things(2);
        Due.warn(x, "bad 1 any");
        due.is("bad(0, 1, 0)", x.bad(0, 1, 0), 1);
        due.is("bad(0, 0, 0), of another part", x.bad(0, 0, 0), 0);
    }

    @Says(promise = 18, words = "Whether a MAKE is BAD by a WARNING as known on a DAY: 1, 0; NONE.")
    static void badByNoWarning(Due due) {
        MadeOf none = Built.makes(1);
        due.all("bad ahead of any warning", Built.missing(0), w -> none.bad(w, 0, 0), -1);
        MadeOf two = Built.makes(1);
        MadeOf full = Built.makes(1);
        for (int w = 0; w < 20; w++) {
            Due.warn(w < 2 ? two : full, "bad 0 any");
        }
        Due.warn(full, "bad 0 any");
        Due.warn(full, "bad 0 any");
        due.all("bad with two warnings", Built.missing(2), w -> two.bad(w, 0, 0), -1);
        due.all("bad with all warnings", Built.missing(20), w -> full.bad(w, 0, 0), -1);
        due.is("bad(19, 0, 0)", full.bad(19, 0, 0), 1);
    }

    @Says(promise = 18, words = "Whether a MAKE is BAD by a WARNING as known on a DAY: 1, 0; NONE.")
    static void badOfNoMake(Due due) {
        MadeOf none = Built.parts(1);
        Due.warn(none, "bad 0 any");
        due.all("bad ahead of any make", Built.missing(0), m -> none.bad(0, m, 0), -1);
        MadeOf two = Built.lastBad(2);
        due.all("bad with two makes", Built.missing(2), m -> two.bad(0, m, 0), -1);
        MadeOf full = Built.lastBad(60);
        due.all("bad with all makes", Built.missing(60), m -> full.bad(0, m, 0), -1);
        due.is("bad(0, 59, 0)", full.bad(0, 59, 0), 1);
    }

    @Says(promise = 18, words = "Whether a MAKE is BAD by a WARNING as known on a DAY: 1, 0; NONE.")
    static void badOnNoDay(Due due) {
        MadeOf x = Built.lastBad(2);
        due.all("bad of a bad one", Built.noDays(), day -> x.bad(0, 1, day), -1);
        due.all("bad of another", Built.noDays(), day -> x.bad(0, 0, day), -1);
        due.is("bad(0, 1, 0)", x.bad(0, 1, 0), 1);
        due.is("bad(0, 1, 10000)", x.bad(0, 1, LAST), 1);
    }

    @Says(promise = 18, words = "VERSIONS are in order by the first number, then the second, then the third one.")
    static void badBelow(Due due) {
        badFromTo(due, "<0", 1, 0);
        badFromTo(due, "<0.0.1", 0, 0);
        badFromTo(due, "<0.1", 0, 2);
        badFromTo(due, "<1", 0, 4);
        badFromTo(due, "<1.2.3", 0, 8);
        badFromTo(due, "<1.3", 0, 10);
        badFromTo(due, "<2", 0, 11);
        badFromTo(due, "<999.999.999", 0, 14);
    }

    @Says(promise = 18, words = "VERSIONS are in order by the first number, then the second, then the third one.")
    static void badBelowOrSame(Due due) {
        badFromTo(due, "<=0", 0, 0);
        badFromTo(due, "<=0.0.999", 0, 2);
        badFromTo(due, "<=0.999.999", 0, 4);
        badFromTo(due, "<=1", 0, 5);
        badFromTo(due, "<=1.2.3", 0, 9);
        badFromTo(due, "<=1.999.999", 0, 11);
        badFromTo(due, "<=999.999.999", 0, 15);
    }

    @Says(promise = 18, words = "VERSIONS are in order by the first number, then the second, then the third one.")
    static void badAbove(Due due) {
        badFromTo(due, ">0", 1, 15);
        badFromTo(due, ">0.0.999", 3, 15);
        badFromTo(due, ">0.999.999", 5, 15);
        badFromTo(due, ">1", 6, 15);
        badFromTo(due, ">1.2.3", 10, 15);
        badFromTo(due, ">999.999.998", 15, 15);
        badFromTo(due, ">999.999.999", 16, 15);
    }

    @Says(promise = 18, words = "VERSIONS are in order by the first number, then the second, then the third one.")
    static void badAboveOrSame(Due due) {
        badFromTo(due, ">=0", 0, 15);
        badFromTo(due, ">=0.0.1", 1, 15);
        badFromTo(due, ">=1", 5, 15);
        badFromTo(due, ">=1.2.3", 9, 15);
        badFromTo(due, ">=2.0.1", 13, 15);
        badFromTo(due, ">=999.999.999", 15, 15);
    }

    @Says(promise = 18, words = "VERSION: NUMBER [\".\" NUMBER [\".\" NUMBER]]")
    static void badTheSameAlone(Due due) {
        for (int m = 0; m < VERSIONS.length; m++) {
            badFromTo(due, "=" + VERSIONS[m][0] + "." + VERSIONS[m][1] + "." + VERSIONS[m][2], m, m);
        }
        badFromTo(due, "=5.5.5", 1, 0);
    }

    @Says(promise = 18, words = "(what is not told is 0)")
    static void badByAVersionThatIsNotToldWhole(Due due) {
        badFromTo(due, "=0", 0, 0);
        badFromTo(due, "=1", 5, 5);
        badFromTo(due, "=1.0", 5, 5);
        badFromTo(due, "=1.3", 11, 11);
        badFromTo(due, "=2", 12, 12);
        badFromTo(due, "=0.1", 3, 3);
        // What one version tells is not left over for the next.
        badFromTo(due, "=9.2.3 or =1", 5, 5);
        badFromTo(due, "=9.9.1 or =2", 12, 12);
    }

    @Says(promise = 18, words = "| \"any\"")
    static void badByAny(Due due) {
        badFromTo(due, "any", 0, 15);
        badFromTo(due, "any and =2", 12, 12);
        badFromTo(due, "=2 and any", 12, 12);
        badFromTo(due, "=2 or any", 0, 15);
    }

    @Says(promise = 18, words = "some TERM's TESTS all hold of its VERSION")
    static void badBySomeTermAndAllItsTests(Due due) {
        badAre(due, "=0.0.1 or =0.0.3", "01010");
        badAre(due, ">0.0.0 and <0.0.3", "01100");
        badAre(due, "=0.0.1 and =0.0.3", "00000");
        badAre(due, "=0 or >0.0.1 and <0.0.3", "10100");
        badAre(due, ">0.0.1 and <0.0.3 or =0", "10100");
        badAre(due, "<0.0.3 and >0.0.1 or <0.0.1 and any or >=0.0.4 and <=0.0.4", "10101");
        badAre(due, ">0.0.3 and <0.0.1 or <0", "00000");
    }

    @Says(promise = 18, words = "30 TESTS at most")
    static void badByTheFirstAndTheLastOfThirtyTests(Due due) {
        badAre(due, "=0.0.1" + " or <0".repeat(29), "010");
        badAre(due, "<0 or ".repeat(29) + "=0.0.1", "010");
        badAre(due, "<0.0.2" + " and<9".repeat(29), "110");
        badAre(due, "<9 and".repeat(29) + "<0.0.2", "110");
    }

    @Says(promise = 18, words = "if its PART is in the GROUP of the told one")
    static void badByTheGroupOfTheDay(Due due) {
        MadeOf x = Built.things(4);
        Due.warn(x, "bad 2 any");
        x.join(3, 2, 10);
        x.join(3, 0, 20);
        x.unlike(0, 2, 30);
        String[] wanted = {"0010", "0010", "0011", "0011", "1011", "1011", "0011", "0011"};
        int[] days = {0, 9, 10, 19, 20, 29, 30, LAST};
        for (int i = 0; i < days.length; i++) {
            for (int m = 0; m < 4; m++) {
                due.is("bad(0, " + m + ", " + days[i] + ")", x.bad(0, m, days[i]), wanted[i].charAt(m) - '0');
            }
        }
        x.undo(0);
        due.is("bad(0, 3, 10), undone", x.bad(0, 3, 10), 0);
        due.is("bad(0, 2, 10)", x.bad(0, 2, 10), 1);
    }

    @Says(promise = 18, words = "A MAKE is BAD by a WARNING")
    static void badByEachWarningForItself(Due due) {
        MadeOf x = Built.makes(20);
        for (int w = 0; w < 20; w++) {
            Due.warn(x, "bad 0 =0.0." + w);
        }
        for (int w = 0; w < 20; w++) {
            due.is("bad(" + w + ", " + w + ", 0)", x.bad(w, w, 0), 1);
            due.is("bad of the next", x.bad(w, (w + 1) % 20, 0), 0);
        }
    }

    @Says(promise = 18, words = "A MAKE is BAD by a WARNING")
    static void badOfOneThatHasABadOneInIt(Due due) {
        MadeOf x = Built.lastBad(2);
        x.link(0, 1, Built.LISTED, 0);
        due.is("bad(0, 0, 0)", x.bad(0, 0, 0), 0);
    }

    // Promise 19: hit

    @Says(promise = 19, words = "a MAKE is HIT, if it is BAD")
    static void hitIfBad(Due due) {
        MadeOf x = Built.lastBad(2);
        due.is("hit of the bad one", x.hit(0, 1, 0), 2);
        due.is("hit of another", x.hit(0, 0, 0), 0);
        x.link(1, 0, Built.GUESSED, 0);
        due.is("hit of the bad one, that has another in it", x.hit(0, 1, 0), 2);
        due.is("hit of what is in a bad one", x.hit(0, 0, 0), 0);
    }

    @Says(promise = 19, words = "or leads over LINKS that count to one that is: for SURE, if it does so by LINKS none of which is GUESSED")
    static void hitForSure(Due due) {
        for (int sort : new int[] {Built.LISTED, Built.FOUND, Built.BUILT}) {
            MadeOf x = Built.chain(Built.lastBad(4), 0, 3, sort);
            for (int m = 0; m < 4; m++) {
                due.is("hit(0, " + m + ", 0) by sort " + sort, x.hit(0, m, 0), 2);
            }
        }
    }

    @Says(promise = 19, words = "none of which is GUESSED; else PERHAPS")
    static void hitPerhaps(Due due) {
        for (int guessed = 0; guessed < 3; guessed++) {
            MadeOf x = Built.lastBad(4);
            for (int m = 0; m < 3; m++) {
                x.link(m, m + 1, m == guessed ? Built.GUESSED : m, 0);
            }
            for (int m = 0; m < 4; m++) {
                due.is("hit(0, " + m + ", 0), " + guessed + " guessed", x.hit(0, m, 0), m <= guessed ? 1 : 2);
            }
        }
    }

    @Says(promise = 19, words = "for SURE, if it does so by LINKS none of which is GUESSED; else PERHAPS")
    static void hitForSureBesideAGuess(Due due) {
        MadeOf x = Built.lastBad(4);
        x.link(0, 3, Built.GUESSED, 0);
        x.link(0, 1, Built.LISTED, 0);
        x.link(1, 2, Built.FOUND, 0);
        due.is("hit(0, 0, 0)", x.hit(0, 0, 0), 1);
        x.link(2, 3, Built.BUILT, 0);
        due.is("hit(0, 0, 0), for sure too", x.hit(0, 0, 0), 2);
    }

    @Says(promise = 19, words = "leads over LINKS that count")
    static void hitByLinksWhileTheyCount(Due due) {
        MadeOf x = Built.lastBad(2);
        x.link(0, 1, Built.LISTED, 10);
        x.link(0, 1, Built.GUESSED, 15);
        x.cut(0, 20);
        x.cut(1, 30);
        int[] days = {0, 9, 10, 19, 20, 29, 30, LAST};
        int[] wanted = {0, 0, 2, 2, 1, 1, 0, 0};
        for (int i = 0; i < days.length; i++) {
            due.is("hit(0, 0, " + days[i] + ")", x.hit(0, 0, days[i]), wanted[i]);
        }
    }

    @Says(promise = 19, words = "leads over LINKS that count")
    static void hitOverARowOfAllMakes(Due due) {
        MadeOf x = Built.chain(Built.lastBad(60), 0, 59, Built.BUILT);
        for (int m = 0; m < 60; m++) {
            due.is("hit(0, " + m + ", 0)", x.hit(0, m, 0), 2);
        }
        x.cut(58, 5);
        x.link(58, 59, Built.GUESSED, 5);
        for (int m = 0; m < 59; m++) {
            due.is("hit(0, " + m + ", 5)", x.hit(0, m, 5), 1);
        }
    }

    @Says(promise = 19, words = "leads over LINKS that count")
    static void hitByTheLastOfAllLinks(Due due) {
        MadeOf x = Built.lastBad(3);
        for (int l = 0; l < 199; l++) {
            x.link(0, 1, Built.LISTED, 0);
        }
        due.is("hit(0, 0, 0), by none", x.hit(0, 0, 0), 0);
        x.link(1, 2, Built.GUESSED, 0);
        due.is("hit(0, 0, 0), by the last one", x.hit(0, 0, 0), 1);
        wayIs(due, x, 0, 0, 0, 1, 2);
    }

    @Says(promise = 19, words = "leads over LINKS that count")
    static void hitInAndByARing(Due due) {
        MadeOf x = Built.chain(Built.lastBad(5), 0, 3, Built.LISTED);
        x.link(3, 0, Built.LISTED, 0);
        due.is("hit(0, 0, 0), in a ring without a bad one", x.hit(0, 0, 0), 0);
        x.link(2, 4, Built.LISTED, 10);
        for (int m = 0; m < 4; m++) {
            due.is("hit(0, " + m + ", 10)", x.hit(0, m, 10), 2);
        }
    }

    @Says(promise = 19, words = "2 for SURE, 1 PERHAPS, 0; NONE.")
    static void hitByNoWarning(Due due) {
        MadeOf none = Built.makes(1);
        due.all("hit ahead of any warning", Built.missing(0), w -> none.hit(w, 0, 0), -1);
        MadeOf one = Built.lastBad(2);
        due.all("hit with one warning", Built.missing(1), w -> one.hit(w, 1, 0), -1);
    }

    @Says(promise = 19, words = "2 for SURE, 1 PERHAPS, 0; NONE.")
    static void hitOfNoMake(Due due) {
        MadeOf two = Built.lastBad(2);
        due.all("hit with two makes", Built.missing(2), m -> two.hit(0, m, 0), -1);
        MadeOf full = Built.lastBad(60);
        due.all("hit with all makes", Built.missing(60), m -> full.hit(0, m, 0), -1);
    }

    @Says(promise = 19, words = "Whether a MAKE is HIT as known on a DAY: 2 for SURE, 1 PERHAPS, 0; NONE.")
    static void hitOnNoDay(Due due) {
        MadeOf x = Built.lastBad(2);
        due.all("hit of a bad one", Built.noDays(), day -> x.hit(0, 1, day), -1);
        due.all("hit of another", Built.noDays(), day -> x.hit(0, 0, day), -1);
        due.is("hit(0, 1, 10000)", x.hit(0, 1, LAST), 2);
    }

    @Says(promise = 19, words = "a MAKE is HIT, if it is BAD")
    static void hitByTheGroupOfTheDay(Due due) {
        MadeOf x = Built.things(3);
        Due.warn(x, "bad 2 any");
        x.link(0, 1, Built.LISTED, 0);
        x.join(1, 2, 10);
        due.is("hit(0, 0, 9)", x.hit(0, 0, 9), 0);
        due.is("hit(0, 0, 10)", x.hit(0, 0, 10), 2);
        due.is("hit(0, 1, 10)", x.hit(0, 1, 10), 2);
    }

    // Promise 20: way

    @Says(promise = 20, words = "MAKE i of the WAY (0 itself)")
    static void wayOfOneThatIsBad(Due due) {
        MadeOf x = Built.lastBad(3);
        x.link(2, 0, Built.LISTED, 0);
        x.link(0, 2, Built.LISTED, 0);
        wayIs(due, x, 2, 0, 2);
    }

    @Says(promise = 20, words = "how many (i -1; 0 of one that is not HIT)")
    static void wayOfOneThatIsNotHit(Due due) {
        MadeOf x = Built.lastBad(3);
        due.is("way(0, 0, 0, -1)", x.way(0, 0, 0, -1), 0);
        due.all("way(0, 0, 0, i)", new int[] {0, 1, 2, 59, 60, 64, Built.MAX, -2, Built.MIN}, i -> x.way(0, 0, 0, i), -1);
        x.link(0, 1, Built.LISTED, 0);
        due.is("way(0, 0, 0, -1), that leads to others", x.way(0, 0, 0, -1), 0);
    }

    @Says(promise = 20, words = "a row of MAKES from it to a BAD one by such LINKS")
    static void wayOfAllMakes(Due due) {
        MadeOf x = Built.chain(Built.lastBad(60), 0, 59, Built.FOUND);
        int[] row = new int[60];
        for (int m = 0; m < 60; m++) {
            row[m] = m;
        }
        wayIs(due, x, 0, 0, row);
        wayIs(due, x, 58, 0, 58, 59);
    }

    @Says(promise = 20, words = "MAKE i of the WAY (0 itself); how many (i -1; 0 of one that is not HIT). NONE.")
    static void wayBehindItsEndAndAheadOfItsBegin(Due due) {
        MadeOf x = Built.chain(Built.lastBad(3), 0, 2, Built.LISTED);
        due.is("way(0, 0, 0, -1)", x.way(0, 0, 0, -1), 3);
        due.is("way(0, 0, 0, 2)", x.way(0, 0, 0, 2), 2);
        due.all("way(0, 0, 0, i)", new int[] {3, 4, 59, 60, 61, 64, 256, 65536, Built.MAX}, i -> x.way(0, 0, 0, i), -1);
        due.all("way(0, 0, 0, i)", new int[] {-2, -3, -64, -256, -65536, Built.MIN}, i -> x.way(0, 0, 0, i), -1);
    }

    @Says(promise = 20, words = "of all of them the shortest")
    static void wayIsTheShortest(Due due) {
        MadeOf x = Built.chain(Built.lastBad(5), 0, 4, Built.LISTED);
        wayIs(due, x, 0, 0, 0, 1, 2, 3, 4);
        x.link(0, 3, Built.LISTED, 10);
        wayIs(due, x, 0, 9, 0, 1, 2, 3, 4);
        wayIs(due, x, 0, 10, 0, 3, 4);
        x.link(0, 4, Built.BUILT, 20);
        wayIs(due, x, 0, 20, 0, 4);
    }

    @Says(promise = 20, words = "of those alike the first as rows of numbers of MAKES")
    static void wayIsTheFirstOfTheShortest(Due due) {
        MadeOf x = Built.lastBad(8);
        int[][] links = {{0, 5}, {0, 2}, {0, 3}, {5, 1}, {2, 6}, {2, 4}, {3, 1}, {1, 7}, {6, 7}, {4, 7}};
        for (int[] l : links) {
            x.link(l[0], l[1], Built.LISTED, 0);
        }
        wayIs(due, x, 0, 0, 0, 2, 4, 7);
        wayIs(due, x, 5, 0, 5, 1, 7);
    }

    @Says(promise = 20, words = "of those alike the first as rows of numbers of MAKES")
    static void wayToTheFirstOfTwoBadOnes(Due due) {
        MadeOf x = Built.makes(4);
        Due.warn(x, "bad 0 >0.0.1");
        x.link(0, 3, Built.LISTED, 0);
        wayIs(due, x, 0, 0, 0, 3);
        x.link(0, 2, Built.LISTED, 0);
        wayIs(due, x, 0, 0, 0, 2);
        // A lower one that is not bad makes it longer.
        x.link(0, 1, Built.LISTED, 0);
        x.link(1, 2, Built.LISTED, 0);
        wayIs(due, x, 0, 0, 0, 2);
    }

    @Says(promise = 20, words = "(if it is HIT for SURE, none GUESSED)")
    static void wayForSureThoughAGuessIsShorter(Due due) {
        MadeOf x = Built.lastBad(4);
        x.link(0, 3, Built.GUESSED, 0);
        wayIs(due, x, 0, 0, 0, 3);
        x.link(0, 2, Built.LISTED, 10);
        x.link(2, 3, Built.LISTED, 10);
        wayIs(due, x, 0, 9, 0, 3);
        wayIs(due, x, 0, 10, 0, 2, 3);
        // A guess to a lower make, as long as the sure way.
        x.link(0, 1, Built.GUESSED, 20);
        x.link(1, 3, Built.LISTED, 20);
        wayIs(due, x, 0, 20, 0, 2, 3);
        wayIs(due, x, 1, 20, 1, 3);
    }

    @Says(promise = 20, words = "by such LINKS (if it is HIT for SURE, none GUESSED): of all of them the shortest")
    static void wayPerhapsByLinksOfAllSorts(Due due) {
        MadeOf x = Built.lastBad(6);
        x.link(0, 1, Built.LISTED, 0);
        x.link(1, 2, Built.GUESSED, 0);
        x.link(2, 5, Built.BUILT, 0);
        wayIs(due, x, 0, 0, 0, 1, 2, 5);
        x.link(0, 4, Built.GUESSED, 0);
        x.link(4, 5, Built.GUESSED, 0);
        wayIs(due, x, 0, 0, 0, 4, 5);
        x.link(0, 3, Built.FOUND, 0);
        x.link(3, 5, Built.GUESSED, 0);
        wayIs(due, x, 0, 0, 0, 3, 5);
    }

    @Says(promise = 20, words = "leads over LINKS that count")
    static void wayByLinksWhileTheyCount(Due due) {
        MadeOf x = Built.lastBad(3);
        x.link(0, 2, Built.LISTED, 10);
        x.cut(0, 20);
        Built.chain(x, 0, 2, Built.LISTED);
        wayIs(due, x, 0, 9, 0, 1, 2);
        wayIs(due, x, 0, 10, 0, 2);
        wayIs(due, x, 0, 19, 0, 2);
        wayIs(due, x, 0, 20, 0, 1, 2);
    }

    @Says(promise = 20, words = "how many (i -1; 0 of one that is not HIT). NONE.")
    static void wayByNoWarning(Due due) {
        MadeOf none = Built.makes(1);
        due.all("way ahead of any warning", Built.missing(0), w -> none.way(w, 0, 0, -1), -1);
        MadeOf one = Built.lastBad(2);
        due.all("the first of the way", Built.missing(1), w -> one.way(w, 1, 0, 0), -1);
        due.all("how many", Built.missing(1), w -> one.way(w, 1, 0, -1), -1);
    }

    @Says(promise = 20, words = "how many (i -1; 0 of one that is not HIT). NONE.")
    static void wayOfNoMake(Due due) {
        MadeOf two = Built.lastBad(2);
        due.all("the first of the way", Built.missing(2), m -> two.way(0, m, 0, 0), -1);
        due.all("how many", Built.missing(2), m -> two.way(0, m, 0, -1), -1);
        MadeOf full = Built.lastBad(60);
        due.all("how many of all", Built.missing(60), m -> full.way(0, m, 0, -1), -1);
    }

    @Says(promise = 20, words = "how many (i -1; 0 of one that is not HIT). NONE.")
    static void wayOnNoDay(Due due) {
        MadeOf x = Built.lastBad(2);
        due.all("the first of the way", Built.noDays(), day -> x.way(0, 1, day, 0), -1);
        due.all("how many", Built.noDays(), day -> x.way(0, 1, day, -1), -1);
        due.all("how many of one not hit", Built.noDays(), day -> x.way(0, 0, day, -1), -1);
        due.is("way(0, 1, 10000, 0)", x.way(0, 1, LAST, 0), 1);
    }
}
