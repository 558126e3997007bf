import java.util.ArrayList;
import java.util.List;
import java.util.function.ToIntFunction;

/** Sentences of promises 26 to 29: recall, told, count, status; and that a refused call changes nothing. */
final class Promises26To29 {
    private static final int LAST = Built.LAST_DAY;

    private Promises26To29() {
    }

    /** Make 0 is hit perhaps, make 1 is bad, make 2 is not hit, by warning 0. */
    private static MadeOf hits() {
        MadeOf x = Built.things(3);
        Due.warn(x, "bad 1 any");
        x.link(0, 1, Built.GUESSED, 0);
        return x;
    }

    /** Some of everything, so that each refusal but for want of room can come about. */
    private static MadeOf some() {
        MadeOf x = Built.things(5);
        x.make(0, 2, 0, 0);
        x.link(0, 1, Built.FOUND, 0);
        x.link(1, 2, Built.LISTED, 5);
        x.link(2, 3, Built.GUESSED, 10);
        x.link(5, 0, Built.BUILT, 0);
        x.cut(1, 100);
        x.hold(3, 0, 10, 50, 0);
        x.hold(4, 5, 20, LAST, 30);
        x.hold(5, 3, 0, LAST, 0);
        x.join(0, 4, 0);
        x.join(2, 3, 0);
        x.join(3, 4, 20);
        x.undo(1);
        x.unlike(0, 3, 40);
        Due.warn(x, "bad 3 any");
        Due.warn(x, "bad 4 <2 or =2");
        x.recall(0, 5, 5);
        return x;
    }

    /** Calls of all ten, each of which is refused on an object of {@link #some()}. */
    private static List<ToIntFunction<MadeOf>> refusedCalls() {
        List<ToIntFunction<MadeOf>> calls = new ArrayList<>();
        calls.add(x -> x.part(-1));
        calls.add(x -> x.part(10));
        calls.add(x -> x.make(0, 1000, 0, 0));
        calls.add(x -> x.make(5, 7, 7, 7));
        calls.add(x -> x.make(0, 1, 0, 0));
        calls.add(x -> x.link(0, 3, 4, 0));
        calls.add(x -> x.link(0, 6, 0, 0));
        calls.add(x -> x.link(3, 3, 0, 0));
        calls.add(x -> x.cut(0, 10001));
        calls.add(x -> x.cut(4, 0));
        calls.add(x -> x.cut(1, 50));
        calls.add(x -> x.hold(3, 3, 9, 8, 0));
        calls.add(x -> x.hold(3, 6, 0, LAST, 0));
        calls.add(x -> x.join(0, 1, -1));
        calls.add(x -> x.join(0, 5, 0));
        calls.add(x -> x.join(2, 2, 0));
        calls.add(x -> x.undo(3));
        calls.add(x -> x.undo(1));
        calls.add(x -> x.unlike(0, 4, 10001));
        calls.add(x -> x.unlike(-1, 4, 0));
        calls.add(x -> x.unlike(4, 4, 0));
        calls.add(x -> x.warning());
        calls.add(x -> x.recall(1, 10001, 0));
        calls.add(x -> x.recall(1, 30, -1));
        calls.add(x -> x.recall(2, 30, 30));
        return calls;
    }

    /** What these calls are refused by, one by one. */
    private static int[] refusals() {
        return new int[] {-1, -1, -1, -2, -4, -1, -2, -4, -1, -2, -4, -1, -2, -1, -2, -4, -2, -4, -1, -2, -4, -6, -1, -1, -2};
    }

    /** The answers to many questions, but for fault() and status(), in some 400 calls. */
    private static String answers(MadeOf x) {
        StringBuilder all = new StringBuilder();
        for (int what = 0; what <= 7; what++) {
            all.append(x.count(what)).append(' ');
        }
        for (int day : new int[] {0, 10, 30, 40, 100}) {
            all.append("\n").append(day).append(": ").append(x.quarrels(day)).append(' ').append(x.calls(day));
            for (int n = 0; n < 6; n++) {
                all.append(' ').append(x.group(n, day)).append(x.counts(n, day)).append(x.ring(n, day));
                all.append(x.gaps(n, day, 0)).append(x.gaps(n, day, 1));
                all.append(x.hit(0, n, day)).append(x.hit(1, n, day)).append(x.bad(1, n, day));
                all.append(x.has(0, n, 20, day)).append(x.has(1, n, 20, day)).append(x.since(1, n, day));
            }
        }
        return all.append("\n").append(x.told(0)).append(' ').append(x.told(1)).toString();
    }

    // Promise 26: recall

    @Says(promise = 26, words = "RECALL: how many SITES were told.")
    static void recallOfNoneToAllSites(Due due) {
        for (int sites = 0; sites <= 30; sites++) {
            MadeOf x = hits();
            for (int site = 0; site < sites; site++) {
                x.hold(29 - site, 1, 0, LAST, 0);
            }
            due.accepted(x, "recall to " + sites, x.recall(0, 0, 0), sites);
        }
    }

    @Says(promise = 26, words = "each SITE that HAS it, and was not told of it yet, is told")
    static void recallTellsNobodyTwice(Due due) {
        MadeOf x = hits();
        x.hold(3, 1, 0, LAST, 0);
        x.hold(3, 1, 0, LAST, 0);
        x.hold(4, 1, 10, LAST, 0);
        due.accepted(x, "recall on 9", x.recall(0, 9, 0), 1);
        due.accepted(x, "recall on 9 again", x.recall(0, 9, 0), 0);
        due.accepted(x, "recall on 10", x.recall(0, 10, 0), 1);
        due.accepted(x, "recall on 10 again", x.recall(0, 10, 0), 0);
        due.accepted(x, "recall on 10000", x.recall(0, LAST, LAST), 0);
    }

    @Says(promise = 26, words = "each SITE that HAS it")
    static void recallForSureAndPerhaps(Due due) {
        MadeOf x = hits();
        x.hold(3, 0, 0, LAST, 0);
        x.hold(4, 1, 0, LAST, 0);
        x.hold(5, 2, 0, LAST, 0);
        due.accepted(x, "recall", x.recall(0, 0, 0), 2);
        due.is("told(0)", x.told(0), 1 << 3 | 1 << 4);
    }

    @Says(promise = 26, words = "RECALL of a WARNING on a DAY d as known on k")
    static void recallOnTheEdgesOfAHolding(Due due) {
        MadeOf x = hits();
        x.hold(0, 1, 10, 20, 5);
        due.accepted(x, "recall on 9", x.recall(0, 9, 5), 0);
        due.accepted(x, "recall on 21", x.recall(0, 21, 5), 0);
        due.accepted(x, "recall known on 4", x.recall(0, 10, 4), 0);
        due.is("told(0)", x.told(0), 0);
        due.accepted(x, "recall on 20, known on 5", x.recall(0, 20, 5), 1);
        due.is("told(0)", x.told(0), 1);
    }

    @Says(promise = 26, words = "RECALL of a WARNING on a DAY d as known on k")
    static void recallByLinksAsKnownNotAsOnTheDay(Due due) {
        MadeOf x = Built.lastBad(2);
        x.link(0, 1, Built.LISTED, 50);
        x.cut(0, 60);
        x.hold(5, 0, 0, LAST, 0);
        due.accepted(x, "recall on 55, known on 49", x.recall(0, 55, 49), 0);
        due.accepted(x, "recall on 55, known on 60", x.recall(0, 55, 60), 0);
        due.accepted(x, "recall on 0, known on 59", x.recall(0, 0, 59), 1);
    }

    @Says(promise = 26, words = "DAYS 0 .. 10,000.")
    static void recallOnTheFirstDayAndOnTheLast(Due due) {
        MadeOf x = hits();
        x.hold(0, 1, 0, 0, 0);
        x.hold(29, 1, LAST, LAST, LAST);
        due.accepted(x, "recall(0, 0, 0)", x.recall(0, 0, 0), 1);
        due.accepted(x, "recall(0, 10000, 9999)", x.recall(0, LAST, LAST - 1), 0);
        due.accepted(x, "recall(0, 10000, 10000)", x.recall(0, LAST, LAST), 1);
        due.is("told(0)", x.told(0), 1 | 1 << 29);
    }

    @Says(promise = 26, words = "was not told of it yet")
    static void recallOfEachWarningForItself(Due due) {
        MadeOf x = hits();
        Due.warn(x, "bad 1 any");
        x.hold(3, 1, 0, LAST, 0);
        due.accepted(x, "recall of 0", x.recall(0, 0, 0), 1);
        due.is("told(1)", x.told(1), 0);
        due.accepted(x, "recall of 1", x.recall(1, 0, 0), 1);
        due.is("told(1)", x.told(1), 1 << 3);
    }

    @Says(promise = 26, words = "-1 a number that can't be")
    static void recallOnNoDay(Due due) {
        MadeOf x = hits();
        x.hold(3, 1, 0, LAST, 0);
        due.allRefused(x, "recall on", Built.noDays(), day -> x.recall(0, day, 0), -1);
        due.is("told(0)", x.told(0), 0);
    }

    @Says(promise = 26, words = "-1 a number that can't be")
    static void recallKnownOnNoDay(Due due) {
        MadeOf x = hits();
        x.hold(3, 1, 0, LAST, 0);
        due.allRefused(x, "recall known on", Built.noDays(), day -> x.recall(0, 0, day), -1);
        due.is("told(0)", x.told(0), 0);
    }

    @Says(promise = 26, words = "-2 there is no such PART, MAKE, LINK, JOIN, WARNING")
    static void recallOfNoWarning(Due due) {
        MadeOf none = Built.makes(1);
        none.hold(0, 0, 0, LAST, 0);
        due.allRefused(none, "recall ahead of any", Built.missing(0), w -> none.recall(w, 0, 0), -2);
        MadeOf one = hits();
        due.allRefused(one, "recall with one", Built.missing(1), w -> one.recall(w, 0, 0), -2);
        MadeOf full = Built.parts(1);
        for (int w = 0; w < 20; w++) {
            Due.warn(full, "bad 0 any");
        }
        due.allRefused(full, "recall with all", Built.missing(20), w -> full.recall(w, 0, 0), -2);
        due.accepted(full, "recall(19, 0, 0)", full.recall(19, 0, 0), 0);
    }

    @Says(promise = 26, words = "The first of these in that order.")
    static void recallOnNoDayOfNoWarning(Due due) {
        MadeOf x = hits();
        due.allRefused(x, "recall of 1 on", Built.noDays(), day -> x.recall(1, day, 0), -1);
        due.allRefused(x, "recall of -1 known on", Built.noDays(), day -> x.recall(-1, 0, day), -1);
    }

    // Promise 27: told

    @Says(promise = 27, words = "SITES that were told of a WARNING, as bits")
    static void toldOfEachSite(Due due) {
        for (int site = 0; site < 30; site++) {
            MadeOf x = hits();
            x.hold(site, 1, 0, LAST, 0);
            x.recall(0, 0, 0);
            due.is("told(0) of site " + site, x.told(0), 1 << site);
        }
    }

    @Says(promise = 27, words = "SITES that were told of a WARNING, as bits")
    static void toldOfAllSites(Due due) {
        MadeOf x = hits();
        for (int site = 0; site < 30; site++) {
            x.hold(site, 1, 0, LAST, 0);
        }
        x.recall(0, 0, 0);
        due.is("told(0)", x.told(0), 0x3fffffff);
    }

    @Says(promise = 27, words = "0 without.")
    static void toldOfNobody(Due due) {
        MadeOf x = hits();
        x.hold(3, 1, 5, LAST, 0);
        due.is("told(0) ahead of a recall", x.told(0), 0);
        x.recall(0, 4, 0);
        due.is("told(0) behind a recall that met nobody", x.told(0), 0);
        x.has(0, 3, 5, 0);
        x.since(0, 3, 0);
        due.is("told(0) behind questions", x.told(0), 0);
    }

    @Says(promise = 27, words = "0 without.")
    static void toldOfNoWarning(Due due) {
        due.all("told of a new object", Built.missing(0), w -> new MadeOf().told(w), 0);
        MadeOf x = hits();
        x.hold(3, 1, 0, LAST, 0);
        x.recall(0, 0, 0);
        due.all("told with one warning", Built.missing(1), x::told, 0);
    }

    @Says(promise = 27, words = "SITES that were told")
    static void toldOnceIsToldForGood(Due due) {
        MadeOf x = hits();
        x.hold(3, 0, 0, LAST, 0);
        x.recall(0, 0, 0);
        x.cut(0, 0);
        due.is("has(0, 3, 0, 0), cut", x.has(0, 3, 0, 0), 0);
        due.is("recall(0, 0, 0)", x.recall(0, 0, 0), 0);
        due.is("told(0)", x.told(0), 1 << 3);
    }

    // Promise 28: count

    @Says(promise = 28, words = "0 PARTS")
    static void countOfParts(Due due) {
        MadeOf x = new MadeOf();
        for (int n = 0; n <= 30; n++) {
            due.is("count(0)", x.count(0), n);
            x.part(0);
        }
        due.is("count(0), full", x.count(0), 30);
    }

    @Says(promise = 28, words = "1 MAKES")
    static void countOfMakes(Due due) {
        MadeOf x = Built.parts(1);
        for (int n = 0; n <= 60; n++) {
            due.is("count(1)", x.count(1), n);
            x.make(0, 0, 0, n);
        }
        due.is("count(1), full", x.count(1), 60);
        due.is("count(0)", x.count(0), 1);
    }

    @Says(promise = 28, words = "2 LINKS")
    static void countOfLinks(Due due) {
        MadeOf x = Built.makes(2);
        for (int n = 0; n <= 200; n++) {
            due.is("count(2)", x.count(2), n);
            x.link(0, 1, 0, 0);
        }
        due.is("count(2), full", x.count(2), 200);
        x.cut(7, 0);
        due.is("count(2), one cut", x.count(2), 200);
    }

    @Says(promise = 28, words = "3 HOLDINGS")
    static void countOfHoldings(Due due) {
        MadeOf x = Built.makes(1);
        for (int n = 0; n <= 100; n++) {
            due.is("count(3)", x.count(3), n);
            x.hold(0, 0, 0, 0, 0);
        }
        due.is("count(3), full", x.count(3), 100);
    }

    @Says(promise = 28, words = "4 JOINS")
    static void countOfJoins(Due due) {
        MadeOf x = Built.parts(2);
        for (int n = 0; n <= 40; n++) {
            due.is("count(4)", x.count(4), n);
            due.is("count(5)", x.count(5), 0);
            x.join(0, 1, 0);
        }
        due.is("count(4), full", x.count(4), 40);
        x.undo(7);
        due.is("count(4), one undone", x.count(4), 40);
    }

    @Says(promise = 28, words = "5 UNLIKE")
    static void countOfUnlike(Due due) {
        MadeOf x = Built.parts(2);
        for (int n = 0; n <= 40; n++) {
            due.is("count(5)", x.count(5), n);
            due.is("count(4)", x.count(4), 0);
            x.unlike(0, 1, 0);
        }
        due.is("count(5), full", x.count(5), 40);
    }

    @Says(promise = 28, words = "6 WARNINGS")
    static void countOfWarnings(Due due) {
        MadeOf x = Built.parts(1);
        for (int n = 0; n <= 20; n++) {
            due.is("count(6)", x.count(6), n);
            Due.warn(x, "bad 0");
            Due.warn(x, "bad 0 any");
        }
        due.is("count(6), full", x.count(6), 20);
    }

    @Says(promise = 28, words = "7 bytes of the TAPE")
    static void countOfBytes(Due due) {
        MadeOf x = new MadeOf();
        for (int n = 0; n <= 200; n += 20) {
            due.is("count(7)", x.count(7), n);
            x.feed(0, 0, 0, 0, 0);
        }
        due.is("count(7), full", x.count(7), 200);
        x.end(13);
        due.is("count(7), ended", x.count(7), 13);
        x.warning();
        due.is("count(7), read", x.count(7), 0);
    }

    @Says(promise = 28, words = "NONE for others.")
    static void countOfOthers(Due due) {
        due.all("count of a new object", Built.outside(7), what -> new MadeOf().count(what), -1);
        MadeOf x = some();
        due.all("count", Built.outside(7), x::count, -1);
    }

    @Says(promise = 28, words = "REFUSED by")
    static void countStaysBehindEachRefusedCall(Due due) {
        int[] wanted = {5, 6, 4, 3, 3, 1, 2, 0};
        for (ToIntFunction<MadeOf> call : refusedCalls()) {
            MadeOf x = some();
            int answer = call.applyAsInt(x);
            for (int what = 0; what <= 7; what++) {
                due.is("count(" + what + ") behind a refusal by " + answer, x.count(what), wanted[what]);
            }
        }
    }

    // Promise 29: status

    @Says(promise = 29, words = "or ahead of any.")
    static void statusAheadOfAny(Due due) {
        MadeOf x = new MadeOf();
        due.is("status()", x.status(), 0);
        x.find(-1, -1, -1, -1);
        x.end(1);
        x.calls(-1);
        due.is("status() behind questions alone", x.status(), 0);
    }

    @Says(promise = 29, words = "What the latest call of part, make, link, cut, hold, join, undo, unlike, warning, recall was REFUSED by")
    static void statusOfEachRefusedCall(Due due) {
        List<ToIntFunction<MadeOf>> calls = refusedCalls();
        int[] wanted = refusals();
        due.is("as many refusals as calls", wanted.length, calls.size());
        for (int i = 0; i < calls.size(); i++) {
            MadeOf x = some();
            due.is("status() ahead of refused call " + i, x.status(), 0);
            due.refused(x, "refused call " + i, calls.get(i).applyAsInt(x), wanted[i]);
            due.is("status() once more", x.status(), wanted[i]);
        }
    }

    @Says(promise = 29, words = "The first of these in that order.")
    static void statusOfTheLatestOfAllRefusedCalls(Due due) {
        MadeOf x = some();
        List<ToIntFunction<MadeOf>> calls = refusedCalls();
        for (int i = 0; i < calls.size(); i++) {
            due.refused(x, "refused call " + i + " in a row", calls.get(i).applyAsInt(x), refusals()[i]);
        }
    }

    @Says(promise = 29, words = "-5 no room")
    static void statusWithoutRoom(Due due) {
        MadeOf x = Built.things(30);
        due.refused(x, "part", x.part(0), -5);
        for (int m = 0; m < 30; m++) {
            x.make(m, 2, 0, 0);
        }
        due.refused(x, "make", x.make(0, 3, 0, 0), -5);
        for (int n = 0; n < 100; n++) {
            x.hold(0, 0, 0, 0, 0);
        }
        due.refused(x, "hold", x.hold(0, 0, 0, 0, 0), -5);
        for (int n = 0; n < 40; n++) {
            x.join(0, 1, 0);
            x.unlike(2, 3, 0);
        }
        due.refused(x, "join", x.join(0, 1, 0), -5);
        x.part(-1);
        due.refused(x, "unlike", x.unlike(0, 1, 0), -5);
        for (int w = 0; w < 20; w++) {
            Due.warn(x, "bad0any");
        }
        due.refused(x, "warning", x.warning(), -5);
        MadeOf y = Built.makes(2);
        for (int n = 0; n < 200; n++) {
            y.link(0, 1, 0, 0);
        }
        due.refused(y, "link", y.link(0, 1, 0, 0), -5);
    }

    @Says(promise = 29, words = "0 if it was not")
    static void statusOfEachCallThatWasNotRefused(Due due) {
        MadeOf x = Built.things(2);
        Due.warn(x, "bad 0 any");
        x.join(0, 1, 0);
        x.part(-1);
        due.accepted(x, "part", x.part(0), 2);
        x.part(-1);
        due.accepted(x, "make", x.make(2, 0, 0, 0), 2);
        x.part(-1);
        due.accepted(x, "link", x.link(0, 1, 0, 0), 0);
        x.part(-1);
        due.accepted(x, "cut", x.cut(0, 0), 0);
        x.part(-1);
        due.accepted(x, "hold", x.hold(0, 0, 0, 0, 0), 1);
        x.part(-1);
        due.accepted(x, "join", x.join(0, 1, 0), 1);
        x.part(-1);
        due.accepted(x, "undo", x.undo(0), 0);
        x.part(-1);
        due.accepted(x, "unlike", x.unlike(0, 1, 0), 1);
        x.part(-1);
        due.accepted(x, "warning", Due.warn(x, "bad 0 any"), 1);
        x.part(-1);
        due.accepted(x, "recall", x.recall(0, 0, 0), 1);
        x.part(-1);
        due.accepted(x, "recall of nobody", x.recall(0, 0, 0), 0);
    }

    /** Every call that is not one of the ten, with answers and without. */
    private static void askAll(MadeOf x, int n) {
        x.find(n, 1, 0, 0);
        x.counts(n, n);
        x.group(n, n);
        x.quarrels(n);
        x.feed(n, n, n, n, n);
        x.end(n);
        x.end(0);
        x.fault();
        x.bad(n, n, n);
        x.hit(n, n, n);
        x.way(n, n, n, n);
        x.has(n, n, n, n);
        x.since(n, n, n);
        x.gaps(n, n, n);
        x.ring(n, n);
        x.calls(n);
        x.told(n);
        x.count(n);
    }

    @Says(promise = 29, words = "What the latest call of part, make, link, cut, hold, join, undo, unlike, warning, recall")
    static void statusStaysBehindAllOtherCalls(Due due) {
        MadeOf x = some();
        x.cut(1, 0);
        for (int n : new int[] {0, 1, -1, 99, Built.MAX, Built.MIN}) {
            askAll(x, n);
            due.is("status() behind questions with " + n, x.status(), -4);
        }
        x.cut(0, 0);
        for (int n : new int[] {0, 1, -1, 99, Built.MAX, Built.MIN}) {
            askAll(x, n);
            due.is("status() behind questions with " + n, x.status(), 0);
        }
    }

    @Says(promise = 29, words = "What the latest call of part, make, link, cut, hold, join, undo, unlike, warning, recall")
    static void statusStaysBehindAFullTape(Due due) {
        MadeOf x = some();
        for (int i = 0; i < 11; i++) {
            x.feed(0, 0, 0, 0, 0);
            due.is("status() behind feed", x.status(), 0);
        }
        x.cut(1, 0);
        x.feed(0, 0, 0, 0, 0);
        x.end(201);
        due.is("status() behind feed and end", x.status(), -4);
    }

    @Says(promise = 29, words = "REFUSED by")
    static void statusAloneIsChangedByARefusedCall(Due due) {
        String wanted = answers(some());
        List<ToIntFunction<MadeOf>> calls = refusedCalls();
        for (int i = 0; i < calls.size(); i++) {
            MadeOf x = some();
            calls.get(i).applyAsInt(x);
            due.is("the answers behind refused call " + i + " as they were", answers(x).equals(wanted) ? 1 : 0, 1);
        }
    }

    @Says(promise = 29, words = "What the latest call of part")
    static void statusIsChangedByNoQuestionNorIsAnythingElse(Due due) {
        MadeOf x = some();
        askAll(x, 0);
        askAll(x, 3);
        askAll(x, 99);
        due.is("the answers behind questions as they were", answers(x).equals(answers(some())) ? 1 : 0, 1);
    }
}
