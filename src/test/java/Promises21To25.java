/** Sentences of promises 21 to 25: has, since, gaps, ring, calls. */
final class Promises21To25 {
    private static final int LAST = Built.LAST_DAY;

    private Promises21To25() {
    }

    /** Make 0 is hit perhaps, make 1 for sure, make 2 is bad, make 3 is not hit. */
    private static MadeOf hits() {
        MadeOf x = Built.things(4);
        Due.warn(x, "bad 2 any");
        x.link(0, 2, Built.GUESSED, 0);
        x.link(1, 2, Built.LISTED, 0);
        return x;
    }

    // Promise 21: has

    @Says(promise = 21, words = "Whether a SITE HAS it on a DAY as known on a DAY: 2, 1, 0; NONE.")
    static void hasByHowItsMakeIsHit(Due due) {
        MadeOf x = hits();
        int[] wanted = {1, 2, 2, 0};
        for (int m = 0; m < 4; m++) {
            x.hold(m, m, 0, LAST, 0);
            due.is("has of make " + m, x.has(0, m, 0, 0), wanted[m]);
        }
        due.is("has at a site without any", x.has(0, 4, 0, 0), 0);
    }

    @Says(promise = 21, words = "that have d in them")
    static void hasFromTheFirstDayToTheLast(Due due) {
        MadeOf x = hits();
        x.hold(5, 2, 10, 20, 0);
        due.is("has on day 0", x.has(0, 5, 0, 0), 0);
        due.is("has on day 9", x.has(0, 5, 9, 0), 0);
        due.is("has on day 10", x.has(0, 5, 10, 0), 2);
        due.is("has on day 20", x.has(0, 5, 20, 0), 2);
        due.is("has on day 21", x.has(0, 5, 21, 0), 0);
        due.is("has on day 10000", x.has(0, 5, LAST, 0), 0);
    }

    @Says(promise = 21, words = "from a DAY to a DAY (10,000: still)")
    static void hasItStill(Due due) {
        MadeOf x = hits();
        x.hold(5, 2, 0, LAST, 0);
        x.hold(6, 2, 0, LAST - 1, 0);
        due.is("has on day 0", x.has(0, 5, 0, 0), 2);
        due.is("has on day 10000", x.has(0, 5, LAST, 0), 2);
        due.is("has to day 9999, on it", x.has(0, 6, LAST - 1, 0), 2);
        due.is("has to day 9999, on 10000", x.has(0, 6, LAST, 0), 0);
    }

    @Says(promise = 21, words = "by HOLDINGS known by then")
    static void hasFromTheDayOnWhichTheHoldingIsKnown(Due due) {
        MadeOf x = hits();
        x.hold(5, 2, 0, LAST, 10);
        due.is("has known on 0", x.has(0, 5, 50, 0), 0);
        due.is("has known on 9", x.has(0, 5, 50, 9), 0);
        due.is("has known on 10", x.has(0, 5, 50, 10), 2);
        due.is("has known on 10000", x.has(0, 5, 50, LAST), 2);
        due.is("has on a day ahead of that", x.has(0, 5, 0, 10), 2);
    }

    @Says(promise = 21, words = "of MAKES that are HIT (for SURE, if one of these is; else PERHAPS)")
    static void hasForSureIfOneOfThemIs(Due due) {
        MadeOf x = hits();
        x.hold(5, 0, 0, 100, 0);
        x.hold(5, 1, 20, 30, 0);
        x.hold(5, 0, 0, 100, 0);
        x.hold(5, 3, 0, 200, 0);
        int[] days = {0, 19, 20, 30, 31, 100, 101, 200};
        int[] wanted = {1, 1, 2, 2, 1, 1, 0, 0};
        for (int i = 0; i < days.length; i++) {
            due.is("has on day " + days[i], x.has(0, 5, days[i], 0), wanted[i]);
        }
    }

    @Says(promise = 21, words = "A SITE HAS it on a DAY d, as known on k")
    static void hasByLinksAsKnownNotAsOnTheDay(Due due) {
        MadeOf x = Built.lastBad(2);
        x.link(0, 1, Built.LISTED, 50);
        x.cut(0, 60);
        x.hold(5, 0, 0, LAST, 0);
        due.is("has on 55, known on 49", x.has(0, 5, 55, 49), 0);
        due.is("has on 0, known on 50", x.has(0, 5, 0, 50), 2);
        due.is("has on 10000, known on 59", x.has(0, 5, LAST, 59), 2);
        due.is("has on 55, known on 60", x.has(0, 5, 55, 60), 0);
    }

    @Says(promise = 21, words = "HOLDINGS, 100 at most")
    static void hasByTheLastOfAllHoldings(Due due) {
        MadeOf x = hits();
        for (int h = 0; h < 99; h++) {
            x.hold(h % 29, 3, 0, LAST, 0);
        }
        due.is("has at site 29, by none", x.has(0, 29, 7, 0), 0);
        x.hold(29, 0, 7, 7, 0);
        due.is("has at site 29, by the last one", x.has(0, 29, 7, 0), 1);
        due.is("since at site 29, by the last one", x.since(0, 29, 0), 7);
        due.is("has at site 0", x.has(0, 0, 7, 0), 0);
    }

    @Says(promise = 21, words = "2, 1, 0; NONE.")
    static void hasByNoWarning(Due due) {
        MadeOf none = Built.makes(1);
        none.hold(0, 0, 0, LAST, 0);
        due.all("has ahead of any warning", Built.missing(0), w -> none.has(w, 0, 0, 0), -1);
        MadeOf one = hits();
        one.hold(0, 2, 0, LAST, 0);
        due.all("has with one warning", Built.missing(1), w -> one.has(w, 0, 0, 0), -1);
    }

    @Says(promise = 21, words = "2, 1, 0; NONE.")
    static void hasAtNoSite(Due due) {
        MadeOf x = hits();
        for (int site = 0; site < 30; site++) {
            x.hold(site, 2, 0, LAST, 0);
        }
        due.all("has", Built.outside(29), site -> x.has(0, site, 0, 0), -1);
        due.is("has at site 0", x.has(0, 0, 0, 0), 2);
        due.is("has at site 29", x.has(0, 29, 0, 0), 2);
    }

    @Says(promise = 21, words = "2, 1, 0; NONE.")
    static void hasOnNoDay(Due due) {
        MadeOf x = hits();
        x.hold(0, 2, 0, LAST, 0);
        due.all("has", Built.noDays(), day -> x.has(0, 0, day, 0), -1);
        due.all("has at a site without any", Built.noDays(), day -> x.has(0, 1, day, 0), -1);
    }

    @Says(promise = 21, words = "2, 1, 0; NONE.")
    static void hasKnownOnNoDay(Due due) {
        MadeOf x = hits();
        x.hold(0, 2, 0, LAST, 0);
        due.all("has known", Built.noDays(), day -> x.has(0, 0, 0, day), -1);
        due.all("has known at a site without any", Built.noDays(), day -> x.has(0, 1, 0, day), -1);
    }

    // Promise 22: since

    @Says(promise = 22, words = "SINCE; NONE without.")
    static void sinceWithoutAny(Due due) {
        MadeOf x = hits();
        due.is("since at a site without holdings", x.since(0, 5, 0), -1);
        x.hold(5, 3, 0, LAST, 0);
        due.is("since by a make that is not hit", x.since(0, 5, 0), -1);
    }

    @Says(promise = 22, words = "SINCE; NONE without.")
    static void sinceWithoutAHoldingOfTheFirstMakeAtTheFirstSite(Due due) {
        MadeOf x = Built.makes(1);
        Due.warn(x, "bad 0 any");
        due.is("since(0, 0, 0)", x.since(0, 0, 0), -1);
        due.is("has(0, 0, 0, 0)", x.has(0, 0, 0, 0), 0);
        x.hold(1, 0, 0, 0, 0);
        due.is("since(0, 0, 0), beside another site", x.since(0, 0, 0), -1);
    }

    @Says(promise = 22, words = "HOLDINGS, 100 at most")
    static void sinceByTheFirstAndTheLastOfAllHoldings(Due due) {
        MadeOf x = hits();
        for (int h = 0; h < 99; h++) {
            x.hold(5, 2, 50 + h, LAST, 0);
        }
        due.is("since, by the first one", x.since(0, 5, 0), 50);
        x.hold(5, 2, 7, 8, 0);
        due.is("since, by the last one", x.since(0, 5, 0), 7);
    }

    @Says(promise = 22, words = "SINCE: the first DAY on which it HAS it in any way.")
    static void sinceTheFirstDayOfAll(Due due) {
        MadeOf x = hits();
        x.hold(5, 2, 0, 0, 0);
        due.is("since", x.since(0, 5, 0), 0);
    }

    @Says(promise = 22, words = "SINCE: the first DAY on which it HAS it in any way.")
    static void sinceTheLastDayOfAll(Due due) {
        MadeOf x = hits();
        x.hold(5, 2, LAST, LAST, 0);
        due.is("since", x.since(0, 5, 0), LAST);
    }

    @Says(promise = 22, words = "the first DAY on which it HAS it in any way")
    static void sinceTheFirstOfSeveral(Due due) {
        MadeOf x = hits();
        x.hold(5, 2, 50, 60, 0);
        due.is("since", x.since(0, 5, 0), 50);
        x.hold(5, 2, 70, 80, 0);
        due.is("since, with a later one", x.since(0, 5, 0), 50);
        x.hold(5, 2, 30, LAST, 0);
        due.is("since, with a sooner one", x.since(0, 5, 0), 30);
        x.hold(6, 2, 10, 20, 0);
        due.is("since, with one at another site", x.since(0, 5, 0), 30);
        x.hold(5, 3, 5, LAST, 0);
        due.is("since, with one that is not hit", x.since(0, 5, 0), 30);
    }

    @Says(promise = 22, words = "in any way")
    static void sinceForSureOrPerhaps(Due due) {
        MadeOf x = hits();
        x.hold(5, 1, 50, LAST, 0);
        x.hold(5, 0, 20, 30, 0);
        due.is("since, perhaps", x.since(0, 5, 0), 20);
        x.hold(5, 1, 10, 15, 0);
        due.is("since, for sure", x.since(0, 5, 0), 10);
    }

    @Says(promise = 22, words = "by HOLDINGS known by then")
    static void sinceAsKnownOnTheDay(Due due) {
        MadeOf x = hits();
        x.hold(5, 2, 50, LAST, 10);
        x.hold(5, 2, 20, 30, 90);
        due.is("since known on 9", x.since(0, 5, 9), -1);
        due.is("since known on 10, though it begins later", x.since(0, 5, 10), 50);
        due.is("since known on 89", x.since(0, 5, 89), 50);
        due.is("since known on 90", x.since(0, 5, 90), 20);
        x.cut(0, 95);
        x.cut(1, 95);
        x.hold(5, 1, 0, 5, 0);
        due.is("since by a link that counts", x.since(0, 5, 94), 0);
        due.is("since by one that is cut", x.since(0, 5, 95), 20);
    }

    @Says(promise = 22, words = "SINCE; NONE without.")
    static void sinceByNoWarning(Due due) {
        MadeOf none = Built.makes(1);
        none.hold(0, 0, 0, LAST, 0);
        due.all("since ahead of any warning", Built.missing(0), w -> none.since(w, 0, 0), -1);
        MadeOf one = hits();
        one.hold(0, 2, 0, LAST, 0);
        due.all("since with one warning", Built.missing(1), w -> one.since(w, 0, 0), -1);
    }

    @Says(promise = 22, words = "SINCE; NONE without.")
    static void sinceAtNoSite(Due due) {
        MadeOf x = hits();
        for (int site = 0; site < 30; site++) {
            x.hold(site, 2, site, LAST, 0);
        }
        due.all("since", Built.outside(29), site -> x.since(0, site, 0), -1);
        due.is("since at site 29", x.since(0, 29, 0), 29);
    }

    @Says(promise = 22, words = "SINCE; NONE without.")
    static void sinceKnownOnNoDay(Due due) {
        MadeOf x = hits();
        x.hold(0, 2, 0, LAST, 0);
        due.all("since known", Built.noDays(), day -> x.since(0, 0, day), -1);
        due.is("since known on 10000", x.since(0, 0, LAST), 0);
    }

    // Promise 23: gaps

    @Says(promise = 23, words = "FOUND and not LISTED (what 0)")
    static void gapsFoundAndNotListed(Due due) {
        MadeOf x = Built.things(4);
        due.is("gaps without links", x.gaps(0, 0, 0), 0);
        x.link(0, 1, Built.FOUND, 0);
        due.is("gaps(0, 0, 0)", x.gaps(0, 0, 0), 1);
        due.is("gaps(0, 0, 1)", x.gaps(0, 0, 1), 0);
        x.link(0, 2, Built.FOUND, 0);
        due.is("gaps of two", x.gaps(0, 0, 0), 2);
        x.link(0, 1, Built.LISTED, 0);
        due.is("gaps, one listed", x.gaps(0, 0, 0), 1);
        due.is("gaps, listed and found", x.gaps(0, 0, 1), 0);
    }

    @Says(promise = 23, words = "LISTED and not FOUND (1)")
    static void gapsListedAndNotFound(Due due) {
        MadeOf x = Built.things(4);
        due.is("gaps without links", x.gaps(0, 0, 1), 0);
        x.link(0, 1, Built.LISTED, 0);
        due.is("gaps(0, 0, 1)", x.gaps(0, 0, 1), 1);
        due.is("gaps(0, 0, 0)", x.gaps(0, 0, 0), 0);
        x.link(0, 2, Built.LISTED, 0);
        due.is("gaps of two", x.gaps(0, 0, 1), 2);
        x.link(0, 1, Built.FOUND, 0);
        due.is("gaps, one found", x.gaps(0, 0, 1), 1);
        due.is("gaps, found and listed", x.gaps(0, 0, 0), 0);
    }

    @Says(promise = 23, words = "of GROUPS of PARTS of MAKES to which it has FOUND LINKS that count how many have no LISTED one of it")
    static void gapsByPartsNotByMakesOrLinks(Due due) {
        MadeOf x = Built.things(3);
        x.make(1, 2, 0, 0);
        x.link(0, 1, Built.FOUND, 0);
        x.link(0, 1, Built.FOUND, 0);
        x.link(0, 3, Built.FOUND, 0);
        due.is("gaps of two makes of a part", x.gaps(0, 0, 0), 1);
        x.link(0, 3, Built.LISTED, 0);
        due.is("gaps, one of these makes listed", x.gaps(0, 0, 0), 0);
    }

    @Says(promise = 23, words = "of GROUPS of PARTS of MAKES to which it has FOUND LINKS that count how many have no LISTED one of it")
    static void gapsByGroupsOfTheDay(Due due) {
        MadeOf x = Built.things(4);
        x.link(0, 1, Built.FOUND, 0);
        x.link(0, 2, Built.FOUND, 0);
        x.link(0, 3, Built.LISTED, 0);
        x.join(1, 2, 10);
        x.join(2, 3, 20);
        x.unlike(1, 3, 30);
        int[][] wanted = {{0, 2, 1}, {9, 2, 1}, {10, 1, 1}, {19, 1, 1}, {20, 0, 0}, {29, 0, 0}, {30, 1, 1}, {LAST, 1, 1}};
        for (int[] w : wanted) {
            due.is("gaps(0, " + w[0] + ", 0)", x.gaps(0, w[0], 0), w[1]);
            due.is("gaps(0, " + w[0] + ", 1)", x.gaps(0, w[0], 1), w[2]);
        }
    }

    @Says(promise = 23, words = "FOUND LINKS that count")
    static void gapsByLinksWhileTheyCount(Due due) {
        MadeOf x = Built.things(2);
        x.link(0, 1, Built.FOUND, 10);
        x.link(0, 1, Built.LISTED, 20);
        x.cut(0, 30);
        x.cut(1, 40);
        int[][] wanted = {{9, 0, 0}, {10, 1, 0}, {19, 1, 0}, {20, 0, 0}, {29, 0, 0}, {30, 0, 1}, {39, 0, 1}, {40, 0, 0}};
        for (int[] w : wanted) {
            due.is("gaps(0, " + w[0] + ", 0)", x.gaps(0, w[0], 0), w[1]);
            due.is("gaps(0, " + w[0] + ", 1)", x.gaps(0, w[0], 1), w[2]);
        }
    }

    @Says(promise = 23, words = "GAPS of a MAKE as known on k")
    static void gapsOfItsOwnLinksOfTheseTwoSorts(Due due) {
        MadeOf x = Built.things(4);
        x.link(0, 1, Built.BUILT, 0);
        x.link(0, 2, Built.GUESSED, 0);
        x.link(1, 3, Built.FOUND, 0);
        x.link(3, 0, Built.LISTED, 0);
        due.is("gaps(0, 0, 0)", x.gaps(0, 0, 0), 0);
        due.is("gaps(0, 0, 1)", x.gaps(0, 0, 1), 0);
        due.is("gaps(1, 0, 0)", x.gaps(1, 0, 0), 1);
        due.is("gaps(3, 0, 1)", x.gaps(3, 0, 1), 1);
        // What is built in or guessed fills no gap.
        x.link(0, 1, Built.FOUND, 0);
        x.link(0, 2, Built.LISTED, 0);
        due.is("gaps(0, 0, 0) beside one built in", x.gaps(0, 0, 0), 1);
        due.is("gaps(0, 0, 1) beside one guessed", x.gaps(0, 0, 1), 1);
    }

    @Says(promise = 23, words = "GAPS of a MAKE as known on k")
    static void gapsOfAllParts(Due due) {
        MadeOf x = Built.things(30);
        x.make(0, 2, 0, 0);
        for (int m = 1; m <= 30; m++) {
            x.link(0, m, Built.FOUND, 0);
            due.is("gaps of " + m, x.gaps(0, 0, 0), m);
        }
        for (int m = 1; m <= 30; m++) {
            x.link(30, m % 30, Built.LISTED, 0);
            due.is("gaps of " + m + " listed", x.gaps(30, 0, 1), m);
        }
    }

    @Says(promise = 23, words = "LINKS, 200 at most")
    static void gapsByTheLastOfAllLinks(Due due) {
        MadeOf x = Built.things(3);
        for (int l = 0; l < 199; l++) {
            x.link(0, 1, Built.FOUND, 0);
        }
        due.is("gaps(0, 0, 0)", x.gaps(0, 0, 0), 1);
        x.link(0, 2, Built.FOUND, 0);
        due.is("gaps(0, 0, 0), with the last one", x.gaps(0, 0, 0), 2);
        due.is("gaps(0, 0, 1)", x.gaps(0, 0, 1), 0);
    }

    @Says(promise = 23, words = "LISTED and not FOUND (1); NONE.")
    static void gapsOfNoMake(Due due) {
        due.all("gaps of a new object", Built.missing(0), m -> new MadeOf().gaps(m, 0, 0), -1);
        MadeOf two = Built.makes(2);
        due.all("gaps with two makes", Built.missing(2), m -> two.gaps(m, 0, 0), -1);
        MadeOf full = Built.makes(60);
        due.all("gaps with all makes", Built.missing(60), m -> full.gaps(m, 0, 1), -1);
    }

    @Says(promise = 23, words = "LISTED and not FOUND (1); NONE.")
    static void gapsOnNoDay(Due due) {
        MadeOf x = Built.makes(2);
        x.link(0, 1, Built.FOUND, 0);
        due.all("gaps", Built.noDays(), day -> x.gaps(0, day, 0), -1);
        due.all("gaps of what is listed", Built.noDays(), day -> x.gaps(0, day, 1), -1);
        due.is("gaps(0, 10000, 0)", x.gaps(0, LAST, 0), 1);
    }

    @Says(promise = 23, words = "FOUND and not LISTED (what 0), LISTED and not FOUND (1); NONE.")
    static void gapsOfNeither(Due due) {
        MadeOf x = Built.makes(2);
        x.link(0, 1, Built.FOUND, 0);
        due.all("gaps of what", Built.outside(1), what -> x.gaps(0, 0, what), -1);
    }

    // Promise 24: ring

    @Says(promise = 24, words = "A MAKE is in a RING, if it leads to itself over LINKS that count.")
    static void ringOfTwo(Due due) {
        MadeOf x = Built.makes(3);
        due.is("ring(0, 0) without links", x.ring(0, 0), 0);
        x.link(0, 1, Built.LISTED, 0);
        due.is("ring(0, 0), there alone", x.ring(0, 0), 0);
        due.is("ring(1, 0), there alone", x.ring(1, 0), 0);
        x.link(1, 0, Built.LISTED, 0);
        due.is("ring(0, 0)", x.ring(0, 0), 1);
        due.is("ring(1, 0)", x.ring(1, 0), 1);
        due.is("ring(2, 0)", x.ring(2, 0), 0);
    }

    @Says(promise = 24, words = "A MAKE is in a RING, if it leads to itself over LINKS that count.")
    static void ringOfAllMakes(Due due) {
        MadeOf x = Built.makes(60);
        for (int m = 0; m < 60; m++) {
            x.link(m, (m + 1) % 60, m % 4, m == 59 ? 10 : 0);
        }
        for (int m = 0; m < 60; m++) {
            due.is("ring(" + m + ", 9)", x.ring(m, 9), 0);
            due.is("ring(" + m + ", 10)", x.ring(m, 10), 1);
        }
    }

    @Says(promise = 24, words = "if it leads to itself")
    static void ringNotOfWhatLeadsToOneOrIsLedTo(Due due) {
        MadeOf x = Built.chain(Built.makes(5), 0, 4, Built.FOUND);
        x.link(3, 1, Built.FOUND, 0);
        int[] wanted = {0, 1, 1, 1, 0};
        for (int m = 0; m < 5; m++) {
            due.is("ring(" + m + ", 0)", x.ring(m, 0), wanted[m]);
        }
    }

    @Says(promise = 24, words = "over LINKS that count")
    static void ringByLinksOfEachSort(Due due) {
        for (int sort = 0; sort <= 3; sort++) {
            MadeOf x = Built.chain(Built.makes(3), 0, 2, sort);
            x.link(2, 0, sort, 0);
            due.is("ring(0, 0) by sort " + sort, x.ring(0, 0), 1);
        }
    }

    @Says(promise = 24, words = "over LINKS that count")
    static void ringWhileItsLinksCount(Due due) {
        MadeOf x = Built.makes(2);
        x.link(0, 1, Built.LISTED, 10);
        x.link(1, 0, Built.LISTED, 0);
        x.cut(1, 20);
        due.is("ring(0, 9)", x.ring(0, 9), 0);
        due.is("ring(0, 10)", x.ring(0, 10), 1);
        due.is("ring(0, 19)", x.ring(0, 19), 1);
        due.is("ring(0, 20)", x.ring(0, 20), 0);
    }

    @Says(promise = 24, words = "A MAKE is in a RING")
    static void ringOfMakesNotOfTheirParts(Due due) {
        MadeOf x = Built.makes(3);
        x.link(0, 1, Built.LISTED, 0);
        x.link(1, 2, Built.LISTED, 0);
        due.is("ring(0, 0), over makes of one part", x.ring(0, 0), 0);
    }

    @Says(promise = 24, words = "Whether a MAKE is in a RING as known on a DAY: 1, 0; NONE.")
    static void ringOfNoMake(Due due) {
        due.all("ring of a new object", Built.missing(0), m -> new MadeOf().ring(m, 0), -1);
        MadeOf two = Built.makes(2);
        two.link(0, 1, Built.LISTED, 0);
        two.link(1, 0, Built.LISTED, 0);
        due.all("ring with two makes", Built.missing(2), m -> two.ring(m, 0), -1);
        MadeOf full = Built.makes(60);
        due.all("ring with all makes", Built.missing(60), m -> full.ring(m, 0), -1);
    }

    @Says(promise = 24, words = "Whether a MAKE is in a RING as known on a DAY: 1, 0; NONE.")
    static void ringOnNoDay(Due due) {
        MadeOf x = Built.makes(3);
        x.link(0, 1, Built.LISTED, 0);
        x.link(1, 0, Built.LISTED, 0);
        due.all("ring", Built.noDays(), day -> x.ring(0, day), -1);
        due.all("ring of one in none", Built.noDays(), day -> x.ring(2, day), -1);
        due.is("ring(0, 10000)", x.ring(0, LAST), 1);
    }

    // Promise 25: calls

    @Says(promise = 25, words = "MAKERS as bits")
    static void callsWithoutAGuess(Due due) {
        due.is("calls(0) of a new object", new MadeOf().calls(0), 0);
        MadeOf x = Built.things(4);
        x.link(0, 1, Built.LISTED, 0);
        x.link(1, 2, Built.FOUND, 0);
        x.link(2, 3, Built.BUILT, 0);
        due.is("calls(0) of other sorts", x.calls(0), 0);
    }

    @Says(promise = 25, words = "a GUESSED LINK that counts is settled by asking the MAKER of either of both its PARTS")
    static void callsOfOneGuess(Due due) {
        for (int a = 0; a < 10; a++) {
            MadeOf x = Built.things(10);
            int b = (a + 3) % 10;
            x.link(a, b, Built.GUESSED, 0);
            due.is("calls(0) for " + a + " and " + b, x.calls(0), 1 << Math.min(a, b));
        }
    }

    @Says(promise = 25, words = "is settled by asking the MAKER of either of both its PARTS")
    static void callsOfAGuessWithinOneMaker(Due due) {
        for (int maker = 0; maker < 10; maker++) {
            MadeOf x = Built.things(20);
            x.link(maker, maker + 10, Built.GUESSED, 0);
            due.is("calls(0) for maker " + maker, x.calls(0), 1 << maker);
        }
    }

    @Says(promise = 25, words = "a GUESSED LINK that counts")
    static void callsWhileTheGuessCounts(Due due) {
        MadeOf x = Built.things(2);
        x.link(1, 0, Built.GUESSED, 10);
        x.cut(0, 20);
        due.is("calls(9)", x.calls(9), 0);
        due.is("calls(10)", x.calls(10), 1);
        due.is("calls(19)", x.calls(19), 1);
        due.is("calls(20)", x.calls(20), 0);
    }

    @Says(promise = 25, words = "the fewest MAKERS by whom all are settled")
    static void callsToTheFewest(Due due) {
        MadeOf x = Built.things(10);
        for (int m = 0; m < 9; m++) {
            x.link(m % 2 == 0 ? m : 9, m % 2 == 0 ? 9 : m, Built.GUESSED, 0);
        }
        due.is("calls(0), one for all nine", x.calls(0), 1 << 9);
        MadeOf row = Built.chain(Built.things(10), 0, 9, Built.GUESSED);
        due.is("calls(0) of a row of ten", row.calls(0), 1 | 1 << 2 | 1 << 4 | 1 << 6 | 1 << 8);
    }

    @Says(promise = 25, words = "of those alike the lowest bits")
    static void callsOfThoseAlikeToTheLowest(Due due) {
        MadeOf x = Built.things(10);
        x.link(9, 8, Built.GUESSED, 0);
        x.link(8, 7, Built.GUESSED, 0);
        x.link(7, 9, Built.GUESSED, 0);
        due.is("calls(0), two of a ring of three", x.calls(0), 1 << 7 | 1 << 8);
        MadeOf y = Built.things(10);
        y.link(9, 1, Built.GUESSED, 0);
        y.link(8, 2, Built.GUESSED, 0);
        due.is("calls(0), two of four", y.calls(0), 1 << 1 | 1 << 2);
        // A ring of four, 0 1 9 2: the bits of 1 and 2 are lower, though 0 and 9 begin with a lower number.
        MadeOf z = Built.things(10);
        int[] ring = {0, 1, 9, 2};
        for (int i = 0; i < 4; i++) {
            z.link(ring[i], ring[(i + 1) % 4], Built.GUESSED, 0);
        }
        due.is("calls(0), two of a ring of four", z.calls(0), 1 << 1 | 1 << 2);
    }

    @Says(promise = 25, words = "by whom all are settled")
    static void callsToAllMakers(Due due) {
        MadeOf x = Built.things(20);
        for (int maker = 0; maker < 10; maker++) {
            x.link(maker, maker + 10, Built.GUESSED, maker);
            due.is("calls(" + maker + ")", x.calls(maker), (1 << maker + 1) - 1);
        }
        MadeOf y = Built.things(10);
        for (int a = 0; a < 10; a++) {
            for (int b = a + 1; b < 10; b++) {
                y.link(b, a, Built.GUESSED, 0);
            }
        }
        due.is("calls(0) of all with all", y.calls(0), 511);
    }

    @Says(promise = 25, words = "by whom all are settled")
    static void callsToAllMakersButOne(Due due) {
        for (int left = 0; left < 10; left++) {
            MadeOf x = Built.things(20);
            for (int maker = 0; maker < 10; maker++) {
                x.link(maker, maker + 10, maker == left ? Built.LISTED : Built.GUESSED, 0);
            }
            due.is("calls(0), all but " + left, x.calls(0), 1023 - (1 << left));
        }
    }

    @Says(promise = 25, words = "LINKS, 200 at most")
    static void callsByTheLastOfAllLinks(Due due) {
        MadeOf x = Built.things(10);
        for (int l = 0; l < 199; l++) {
            x.link(1, 2, Built.GUESSED, 0);
        }
        due.is("calls(0)", x.calls(0), 1 << 1);
        x.link(8, 9, Built.GUESSED, 0);
        due.is("calls(0), with the last one", x.calls(0), 1 << 1 | 1 << 8);
    }

    @Says(promise = 25, words = "the MAKER of either of both its PARTS")
    static void callsToTheMakerOfThePartNotOfItsGroup(Due due) {
        MadeOf x = Built.things(3);
        x.join(0, 1, 0);
        x.join(0, 2, 0);
        x.link(1, 2, Built.GUESSED, 0);
        due.is("calls(0)", x.calls(0), 1 << 1);
    }

    @Says(promise = 25, words = "NONE for no such DAY.")
    static void callsOnNoDay(Due due) {
        due.all("calls of a new object", Built.noDays(), day -> new MadeOf().calls(day), -1);
        MadeOf x = Built.things(2);
        x.link(0, 1, Built.GUESSED, 0);
        due.all("calls", Built.noDays(), x::calls, -1);
        due.is("calls(10000)", x.calls(LAST), 1);
    }
}
