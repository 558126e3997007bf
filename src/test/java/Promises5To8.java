/** Sentences of promises 5 to 8: link, cut, counts, hold. */
final class Promises5To8 {
    private Promises5To8() {
    }

    /** Two makes and so many links from 0 to 1, link l known from day l on. */
    private static MadeOf links(int n) {
        MadeOf x = Built.makes(2);
        for (int l = 0; l < n; l++) {
            x.link(0, 1, l % 4, l);
        }
        return x;
    }

    /** A make that is bad by warning 0, held so many times at site 0 on day 0. */
    private static MadeOf holdings(int n) {
        MadeOf x = Built.makes(1);
        Due.warn(x, "bad 0 any");
        for (int h = 0; h < n; h++) {
            x.hold(0, 0, 0, 0, 0);
        }
        return x;
    }

    // Promise 5: link

    @Says(promise = 5, words = "A LINK: its number.")
    static void linksAreNumberedFromZero(Due due) {
        MadeOf x = Built.makes(60);
        for (int l = 0; l < 200; l++) {
            due.accepted(x, "link " + l, x.link(59 - l % 60, l % 59 == 59 - l % 60 ? 59 : l % 59, l % 4, l), l);
        }
    }

    @Says(promise = 5, words = "a SORT (0 LISTED, 1 FOUND, 2 BUILT in, 3 GUESSED)")
    static void linkOfEachSort(Due due) {
        MadeOf x = Built.makes(2);
        for (int sort = 0; sort <= 3; sort++) {
            due.accepted(x, "link of sort " + sort, x.link(0, 1, sort, 0), sort);
        }
    }

    @Says(promise = 5, words = "a SORT (0 LISTED, 1 FOUND, 2 BUILT in, 3 GUESSED)")
    static void linkKeepsItsSort(Due due) {
        for (int sort = 0; sort <= 3; sort++) {
            MadeOf x = Built.lastBad(2);
            x.link(0, 1, sort, 0);
            due.is("gaps(0, 0, 0) by sort " + sort, x.gaps(0, 0, 0), sort == Built.FOUND ? 1 : 0);
            due.is("gaps(0, 0, 1) by sort " + sort, x.gaps(0, 0, 1), sort == Built.LISTED ? 1 : 0);
            due.is("hit(0, 0, 0) by sort " + sort, x.hit(0, 0, 0), sort == Built.GUESSED ? 1 : 2);
            due.is("calls(0) by sort " + sort, x.calls(0), sort == Built.GUESSED ? 1 : 0);
        }
    }

    @Says(promise = 5, words = "-1 a number that can't be")
    static void linkOfNoSort(Due due) {
        MadeOf x = Built.makes(2);
        due.allRefused(x, "link", Built.outside(3), sort -> x.link(0, 1, sort, 0), -1);
        due.is("count(2)", x.count(2), 0);
    }

    @Says(promise = 5, words = "DAYS 0 .. 10,000.")
    static void linkOnTheFirstDay(Due due) {
        MadeOf x = Built.makes(2);
        due.accepted(x, "link(0, 1, 0, 0)", x.link(0, 1, 0, 0), 0);
        due.is("counts(0, 0)", x.counts(0, 0), 1);
    }

    @Says(promise = 5, words = "DAYS 0 .. 10,000.")
    static void linkOnTheLastDay(Due due) {
        MadeOf x = Built.makes(2);
        due.accepted(x, "link(0, 1, 0, 10000)", x.link(0, 1, 0, Built.LAST_DAY), 0);
        due.is("counts(0, 9999)", x.counts(0, Built.LAST_DAY - 1), 0);
        due.is("counts(0, 10000)", x.counts(0, Built.LAST_DAY), 1);
    }

    @Says(promise = 5, words = "-1 a number that can't be")
    static void linkOnNoDay(Due due) {
        MadeOf x = Built.makes(2);
        due.allRefused(x, "link known", Built.noDays(), day -> x.link(0, 1, 0, day), -1);
        due.is("count(2)", x.count(2), 0);
    }

    @Says(promise = 5, words = "-2 there is no such PART, MAKE")
    static void linkFromNoMake(Due due) {
        MadeOf x = Built.makes(2);
        due.allRefused(x, "link from", Built.missing(2), m -> x.link(m, 0, 0, 0), -2);
        MadeOf full = Built.makes(60);
        due.allRefused(full, "link from, sixty makes", Built.missing(60), m -> full.link(m, 0, 0, 0), -2);
        due.is("count(2)", x.count(2) + full.count(2), 0);
    }

    @Says(promise = 5, words = "-2 there is no such PART, MAKE")
    static void linkToNoMake(Due due) {
        MadeOf x = Built.makes(2);
        due.allRefused(x, "link to", Built.missing(2), m -> x.link(0, m, 0, 0), -2);
        MadeOf full = Built.makes(60);
        due.allRefused(full, "link to, sixty makes", Built.missing(60), m -> full.link(0, m, 0, 0), -2);
        due.is("count(2)", x.count(2) + full.count(2), 0);
    }

    @Says(promise = 5, words = "-4 twice (a MAKE; a LINK from a MAKE to itself;")
    static void linkToItself(Due due) {
        MadeOf x = Built.makes(60);
        for (int m = 0; m < 60; m++) {
            due.refused(x, "link from " + m + " to itself", x.link(m, m, m % 4, 0), -4);
        }
        due.is("count(2)", x.count(2), 0);
    }

    @Says(promise = 5, words = "-4 twice (a MAKE; a LINK from a MAKE to itself;")
    static void linkToAnotherMakeOfItsPart(Due due) {
        MadeOf x = Built.makes(2);
        due.accepted(x, "link(0, 1, 0, 0)", x.link(0, 1, 0, 0), 0);
        due.accepted(x, "link(1, 0, 0, 0), the way back", x.link(1, 0, 0, 0), 1);
        due.accepted(x, "link(0, 1, 0, 0), as before", x.link(0, 1, 0, 0), 2);
    }

    @Says(promise = 5, words = "LINKS, 200 at most")
    static void linkTwoHundredIsTheLast(Due due) {
        MadeOf x = links(199);
        due.accepted(x, "link 199", x.link(1, 0, 0, 0), 199);
        due.is("count(2)", x.count(2), 200);
        due.is("counts(199, 0)", x.counts(199, 0), 1);
        due.is("ring(0, 0), by the last link", x.ring(0, 0), 1);
    }

    @Says(promise = 5, words = "-5 no room")
    static void linkWithoutRoom(Due due) {
        MadeOf x = links(200);
        due.refused(x, "link 200", x.link(1, 0, 0, 0), -5);
        due.refused(x, "link 200 again", x.link(1, 0, 3, 0), -5);
        due.is("count(2)", x.count(2), 200);
        due.is("counts(200, 0)", x.counts(200, 0), -1);
        due.is("ring(0, 0)", x.ring(0, 0), 0);
    }

    @Says(promise = 5, words = "LINKS, 200 at most")
    static void linkThatIsCutStillTakesRoom(Due due) {
        MadeOf x = links(200);
        x.cut(0, 0);
        x.cut(199, 0);
        due.refused(x, "link 200", x.link(1, 0, 0, 0), -5);
        due.is("count(2)", x.count(2), 200);
    }

    @Says(promise = 5, words = "The first of these in that order.")
    static void linkOfNoNumberAndNoMake(Due due) {
        MadeOf x = Built.makes(2);
        due.allRefused(x, "link from 2 of sort", Built.outside(3), sort -> x.link(2, 0, sort, 0), -1);
        due.allRefused(x, "link to -1 on day", Built.noDays(), day -> x.link(0, -1, 0, day), -1);
    }

    @Says(promise = 5, words = "The first of these in that order.")
    static void linkOfNoNumberToItself(Due due) {
        MadeOf x = Built.makes(2);
        due.allRefused(x, "link of sort", Built.outside(3), sort -> x.link(1, 1, sort, 0), -1);
        due.allRefused(x, "link on day", Built.noDays(), day -> x.link(1, 1, 0, day), -1);
    }

    @Says(promise = 5, words = "The first of these in that order.")
    static void linkOfNoNumberWithoutRoom(Due due) {
        MadeOf x = links(200);
        due.allRefused(x, "link of sort", Built.outside(3), sort -> x.link(0, 1, sort, 0), -1);
        due.allRefused(x, "link on day", Built.noDays(), day -> x.link(0, 1, 0, day), -1);
    }

    @Says(promise = 5, words = "The first of these in that order.")
    static void linkOfNoMakeToItself(Due due) {
        MadeOf x = Built.makes(2);
        due.allRefused(x, "link from and to", Built.missing(2), m -> x.link(m, m, 0, 0), -2);
    }

    @Says(promise = 5, words = "The first of these in that order.")
    static void linkOfNoMakeWithoutRoom(Due due) {
        MadeOf x = links(200);
        due.allRefused(x, "link from", Built.missing(2), m -> x.link(m, 0, 0, 0), -2);
        due.allRefused(x, "link to", Built.missing(2), m -> x.link(0, m, 0, 0), -2);
    }

    @Says(promise = 5, words = "The first of these in that order.")
    static void linkToItselfWithoutRoom(Due due) {
        MadeOf x = links(200);
        due.refused(x, "link(0, 0, 0, 0)", x.link(0, 0, 0, 0), -4);
        due.refused(x, "link(1, 1, 0, 0)", x.link(1, 1, 0, 0), -4);
    }

    @Says(promise = 5, words = "REFUSED by")
    static void linkRefusedTakesNoNumber(Due due) {
        MadeOf x = links(3);
        x.link(1, 0, 4, 0);
        x.link(1, 2, 0, 0);
        x.link(1, 1, 0, 0);
        due.is("ring(1, 10000)", x.ring(1, Built.LAST_DAY), 0);
        due.accepted(x, "link behind three that were refused", x.link(1, 0, 0, 0), 3);
    }

    // Promise 6: cut

    @Says(promise = 6, words = "A LINK is CUT from a DAY on: 0.")
    static void cutEachOfAll(Due due) {
        MadeOf x = links(200);
        for (int l = 0; l < 100; l++) {
            due.is("cut of link " + 2 * l, x.cut(2 * l, 5000), 0);
        }
        for (int l = 0; l < 200; l++) {
            due.is("counts(" + l + ", 5000)", x.counts(l, 5000), l % 2);
        }
    }

    @Says(promise = 6, words = "DAYS 0 .. 10,000.")
    static void cutFromTheFirstDay(Due due) {
        MadeOf x = links(1);
        due.accepted(x, "cut(0, 0)", x.cut(0, 0), 0);
        due.is("counts(0, 0)", x.counts(0, 0), 0);
        due.is("counts(0, 10000)", x.counts(0, Built.LAST_DAY), 0);
    }

    @Says(promise = 6, words = "DAYS 0 .. 10,000.")
    static void cutFromTheLastDay(Due due) {
        MadeOf x = links(1);
        due.accepted(x, "cut(0, 10000)", x.cut(0, Built.LAST_DAY), 0);
        due.is("counts(0, 9999)", x.counts(0, Built.LAST_DAY - 1), 1);
        due.is("counts(0, 10000)", x.counts(0, Built.LAST_DAY), 0);
    }

    @Says(promise = 6, words = "-1 a number that can't be")
    static void cutOnNoDay(Due due) {
        MadeOf x = links(1);
        due.allRefused(x, "cut", Built.noDays(), day -> x.cut(0, day), -1);
        due.is("counts(0, 10000)", x.counts(0, Built.LAST_DAY), 1);
        due.accepted(x, "cut(0, 5) behind them", x.cut(0, 5), 0);
    }

    @Says(promise = 6, words = "-2 there is no such PART, MAKE, LINK")
    static void cutOfNoLink(Due due) {
        MadeOf none = Built.makes(2);
        due.allRefused(none, "cut ahead of any link", Built.missing(0), l -> none.cut(l, 0), -2);
        MadeOf two = links(2);
        due.allRefused(two, "cut with two links", Built.missing(2), l -> two.cut(l, 0), -2);
        MadeOf full = links(200);
        due.allRefused(full, "cut with all links", Built.missing(200), l -> full.cut(l, 0), -2);
    }

    @Says(promise = 6, words = "-4 twice (a MAKE; a LINK from a MAKE to itself; what is CUT")
    static void cutTwice(Due due) {
        MadeOf x = links(2);
        x.cut(0, 20);
        due.refused(x, "cut(0, 20)", x.cut(0, 20), -4);
        due.refused(x, "cut(0, 10), sooner", x.cut(0, 10), -4);
        due.refused(x, "cut(0, 30), later", x.cut(0, 30), -4);
        due.is("counts(0, 19)", x.counts(0, 19), 1);
        due.is("counts(0, 20)", x.counts(0, 20), 0);
        due.is("counts(1, 20), of another that is alike", x.counts(1, 20), 1);
    }

    @Says(promise = 6, words = "-4 twice (a MAKE; a LINK from a MAKE to itself; what is CUT")
    static void cutTwiceOnTheEndsOfAllDays(Due due) {
        MadeOf x = links(2);
        x.cut(0, 0);
        x.cut(1, Built.LAST_DAY);
        due.refused(x, "cut(0, 0)", x.cut(0, 0), -4);
        due.refused(x, "cut(0, 10000)", x.cut(0, Built.LAST_DAY), -4);
        due.refused(x, "cut(1, 10000)", x.cut(1, Built.LAST_DAY), -4);
        due.refused(x, "cut(1, 0)", x.cut(1, 0), -4);
    }

    @Says(promise = 6, words = "The first of these in that order.")
    static void cutOnNoDayOfNoLink(Due due) {
        MadeOf x = links(2);
        due.allRefused(x, "cut of link 2", Built.noDays(), day -> x.cut(2, day), -1);
        due.allRefused(x, "cut on day 10001", Built.missing(2), l -> x.cut(l, Built.LAST_DAY + 1), -1);
    }

    @Says(promise = 6, words = "The first of these in that order.")
    static void cutOnNoDayTwice(Due due) {
        MadeOf x = links(1);
        x.cut(0, 0);
        due.allRefused(x, "cut", Built.noDays(), day -> x.cut(0, day), -1);
    }

    // Promise 7: counts

    @Says(promise = 7, words = "a LINK counts, if its DAY is not behind k")
    static void countsFromItsDayOn(Due due) {
        MadeOf x = Built.makes(2);
        x.link(0, 1, 0, 10);
        due.is("counts(0, 0)", x.counts(0, 0), 0);
        due.is("counts(0, 9)", x.counts(0, 9), 0);
        due.is("counts(0, 10)", x.counts(0, 10), 1);
        due.is("counts(0, 11)", x.counts(0, 11), 1);
        due.is("counts(0, 10000)", x.counts(0, Built.LAST_DAY), 1);
    }

    @Says(promise = 7, words = "and it is not CUT by then")
    static void countsUntilItIsCut(Due due) {
        MadeOf x = links(1);
        x.cut(0, 10);
        due.is("counts(0, 0)", x.counts(0, 0), 1);
        due.is("counts(0, 9)", x.counts(0, 9), 1);
        due.is("counts(0, 10)", x.counts(0, 10), 0);
        due.is("counts(0, 11)", x.counts(0, 11), 0);
        due.is("counts(0, 10000)", x.counts(0, Built.LAST_DAY), 0);
    }

    @Says(promise = 7, words = "and it is not CUT by then")
    static void countsNeverIfCutByItsDay(Due due) {
        MadeOf x = Built.makes(2);
        x.link(0, 1, 0, 10);
        x.link(0, 1, 0, 10);
        x.cut(0, 10);
        x.cut(1, 5);
        for (int day = 4; day <= 11; day++) {
            due.is("counts(0, " + day + ")", x.counts(0, day), 0);
            due.is("counts(1, " + day + ")", x.counts(1, day), 0);
        }
    }

    @Says(promise = 7, words = "1, 0; NONE.")
    static void countsOfNoLink(Due due) {
        MadeOf none = Built.makes(2);
        due.all("counts ahead of any link", Built.missing(0), l -> none.counts(l, 0), -1);
        MadeOf two = links(2);
        due.all("counts with two links", Built.missing(2), l -> two.counts(l, 0), -1);
        MadeOf full = links(200);
        due.all("counts with all links", Built.missing(200), l -> full.counts(l, 0), -1);
    }

    @Says(promise = 7, words = "Whether a LINK counts as known on a DAY: 1, 0; NONE.")
    static void countsOnNoDay(Due due) {
        MadeOf x = links(2);
        x.cut(1, 5);
        due.all("counts of one", Built.noDays(), day -> x.counts(0, day), -1);
        due.all("counts of one that is cut", Built.noDays(), day -> x.counts(1, day), -1);
    }

    // Promise 8: hold

    @Says(promise = 8, words = "A HOLDING: how many there are.")
    static void holdTellsHowManyThereAre(Due due) {
        MadeOf x = Built.makes(60);
        for (int h = 1; h <= 100; h++) {
            due.accepted(x, "holding " + h, x.hold(h % 30, h % 60, h, Built.LAST_DAY - h, h), h);
        }
    }

    @Says(promise = 8, words = "a SITE 0 .. 29")
    static void holdAtEachSite(Due due) {
        MadeOf x = holdings(0);
        for (int site = 0; site < 30; site++) {
            due.is("hold at site " + site, x.hold(site, 0, site, site, 0), site + 1);
            due.is("has at site " + site, x.has(0, site, site, 0), 2);
            due.is("since at site " + site, x.since(0, site, 0), site);
        }
    }

    @Says(promise = 8, words = "-1 a number that can't be")
    static void holdAtNoSite(Due due) {
        MadeOf x = holdings(0);
        due.allRefused(x, "hold", Built.outside(29), site -> x.hold(site, 0, 0, 0, 0), -1);
        due.is("count(3)", x.count(3), 0);
        due.is("has(0, 0, 0, 0)", x.has(0, 0, 0, 0), 0);
    }

    @Says(promise = 8, words = "DAYS 0 .. 10,000.")
    static void holdOnTheFirstDay(Due due) {
        MadeOf x = holdings(0);
        due.accepted(x, "hold(0, 0, 0, 0, 0)", x.hold(0, 0, 0, 0, 0), 1);
        due.is("has(0, 0, 0, 0)", x.has(0, 0, 0, 0), 2);
        due.is("has(0, 0, 1, 0)", x.has(0, 0, 1, 0), 0);
    }

    @Says(promise = 8, words = "DAYS 0 .. 10,000.")
    static void holdOnTheLastDay(Due due) {
        int last = Built.LAST_DAY;
        MadeOf x = holdings(0);
        due.accepted(x, "hold(0, 0, 10000, 10000, 10000)", x.hold(0, 0, last, last, last), 1);
        due.is("has(0, 0, 10000, 10000)", x.has(0, 0, last, last), 2);
        due.is("has(0, 0, 9999, 10000)", x.has(0, 0, last - 1, last), 0);
        due.is("has(0, 0, 10000, 9999)", x.has(0, 0, last, last - 1), 0);
    }

    @Says(promise = 8, words = "-1 a number that can't be")
    static void holdFromNoDay(Due due) {
        MadeOf x = holdings(0);
        due.allRefused(x, "hold from", Built.noDays(), day -> x.hold(0, 0, day, Built.LAST_DAY, 0), -1);
        due.is("count(3)", x.count(3), 0);
    }

    @Says(promise = 8, words = "-1 a number that can't be")
    static void holdToNoDay(Due due) {
        MadeOf x = holdings(0);
        due.allRefused(x, "hold to", Built.noDays(), day -> x.hold(0, 0, 0, day, 0), -1);
        due.is("count(3)", x.count(3), 0);
    }

    @Says(promise = 8, words = "-1 a number that can't be")
    static void holdFromAndToNoDay(Due due) {
        MadeOf x = holdings(0);
        due.allRefused(x, "hold from and to", Built.noDays(), day -> x.hold(0, 0, day, day, 0), -1);
        due.is("count(3)", x.count(3), 0);
    }

    @Says(promise = 8, words = "-1 a number that can't be")
    static void holdKnownOnNoDay(Due due) {
        MadeOf x = holdings(0);
        due.allRefused(x, "hold known", Built.noDays(), day -> x.hold(0, 0, 0, 0, day), -1);
        due.is("count(3)", x.count(3), 0);
    }

    @Says(promise = 8, words = "-1 (from behind to)")
    static void holdFromADayBehindItsEnd(Due due) {
        MadeOf x = holdings(0);
        due.refused(x, "hold from 1 to 0", x.hold(0, 0, 1, 0, 0), -1);
        due.refused(x, "hold from 10000 to 9999", x.hold(0, 0, Built.LAST_DAY, Built.LAST_DAY - 1, 0), -1);
        due.refused(x, "hold from 10000 to 0", x.hold(0, 0, Built.LAST_DAY, 0, 0), -1);
        due.is("count(3)", x.count(3), 0);
    }

    @Says(promise = 8, words = "-1 (from behind to)")
    static void holdFromADayToTheSameOne(Due due) {
        MadeOf x = holdings(0);
        due.accepted(x, "hold from 7 to 7", x.hold(0, 0, 7, 7, 0), 1);
        due.is("has on day 6", x.has(0, 0, 6, 0), 0);
        due.is("has on day 7", x.has(0, 0, 7, 0), 2);
        due.is("has on day 8", x.has(0, 0, 8, 0), 0);
    }

    @Says(promise = 8, words = "known from a DAY on.")
    static void holdKnownAheadOfItsFirstDayOrBehindItsLast(Due due) {
        MadeOf x = holdings(0);
        due.accepted(x, "hold known ahead", x.hold(0, 0, 50, 60, 10), 1);
        due.accepted(x, "hold known behind", x.hold(1, 0, 50, 60, 90), 2);
        due.is("has(0, 0, 55, 10)", x.has(0, 0, 55, 10), 2);
        due.is("has(0, 1, 55, 89)", x.has(0, 1, 55, 89), 0);
        due.is("has(0, 1, 55, 90)", x.has(0, 1, 55, 90), 2);
    }

    @Says(promise = 8, words = "-2 there is no such PART, MAKE")
    static void holdOfNoMake(Due due) {
        MadeOf none = Built.parts(1);
        due.allRefused(none, "hold ahead of any make", Built.missing(0), m -> none.hold(0, m, 0, 0, 0), -2);
        MadeOf two = Built.makes(2);
        due.allRefused(two, "hold with two makes", Built.missing(2), m -> two.hold(0, m, 0, 0, 0), -2);
        MadeOf full = Built.makes(60);
        due.allRefused(full, "hold with all makes", Built.missing(60), m -> full.hold(0, m, 0, 0, 0), -2);
        due.is("count(3)", none.count(3) + two.count(3) + full.count(3), 0);
    }

    @Says(promise = 8, words = "HOLDINGS, 100 at most")
    static void holdOneHundredIsTheLast(Due due) {
        MadeOf x = holdings(99);
        due.accepted(x, "holding 100", x.hold(29, 0, 5, 5, 0), 100);
        due.is("count(3)", x.count(3), 100);
        due.is("has(0, 29, 5, 0), by the last holding", x.has(0, 29, 5, 0), 2);
    }

    @Says(promise = 8, words = "-5 no room")
    static void holdWithoutRoom(Due due) {
        MadeOf x = holdings(100);
        due.refused(x, "holding 101", x.hold(29, 0, 5, 5, 0), -5);
        due.refused(x, "holding 101 again", x.hold(0, 0, 0, 0, 0), -5);
        due.is("count(3)", x.count(3), 100);
        due.is("has(0, 29, 5, 0)", x.has(0, 29, 5, 0), 0);
    }

    @Says(promise = 8, words = "HOLDINGS, 100 at most")
    static void holdTheSameAgain(Due due) {
        MadeOf x = holdings(1);
        due.accepted(x, "the same holding", x.hold(0, 0, 0, 0, 0), 2);
        due.accepted(x, "one over it", x.hold(0, 0, 0, 9, 0), 3);
    }

    @Says(promise = 8, words = "The first of these in that order.")
    static void holdOfNoNumberAndNoMake(Due due) {
        MadeOf x = holdings(0);
        due.allRefused(x, "hold of 1 at site", Built.outside(29), site -> x.hold(site, 1, 0, 0, 0), -1);
        due.allRefused(x, "hold of 1 known", Built.noDays(), day -> x.hold(0, 1, 0, 0, day), -1);
        due.allRefused(x, "hold from 1 to 0 of", Built.missing(1), m -> x.hold(0, m, 1, 0, 0), -1);
    }

    @Says(promise = 8, words = "The first of these in that order.")
    static void holdOfNoNumberWithoutRoom(Due due) {
        MadeOf x = holdings(100);
        due.allRefused(x, "hold at site", Built.outside(29), site -> x.hold(site, 0, 0, 0, 0), -1);
        due.allRefused(x, "hold known", Built.noDays(), day -> x.hold(0, 0, 0, 0, day), -1);
        due.refused(x, "hold from 1 to 0", x.hold(0, 0, 1, 0, 0), -1);
    }

    @Says(promise = 8, words = "The first of these in that order.")
    static void holdOfNoMakeWithoutRoom(Due due) {
        MadeOf x = holdings(100);
        due.allRefused(x, "hold of", Built.missing(1), m -> x.hold(0, m, 0, 0, 0), -2);
    }

    @Says(promise = 8, words = "REFUSED by")
    static void holdRefusedIsNotThere(Due due) {
        MadeOf x = holdings(1);
        x.hold(0, 0, 9, 8, 0);
        x.hold(0, 1, 9, 9, 0);
        due.accepted(x, "hold behind two that were refused", x.hold(1, 0, 0, 0, 0), 2);
        due.is("has(0, 0, 9, 0)", x.has(0, 0, 9, 0), 0);
    }
}
