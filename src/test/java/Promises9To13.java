/** Sentences of promises 9 to 13: join, undo, unlike, group, quarrels. */
final class Promises9To13 {
    private static final int LAST = Built.LAST_DAY;

    private Promises9To13() {
    }

    /** Three parts and so many joins of 0 with 1, all known from day 0 on. */
    private static MadeOf joins(int n) {
        MadeOf x = Built.parts(3);
        for (int j = 0; j < n; j++) {
            x.join(0, 1, 0);
        }
        return x;
    }

    /** Three parts, and so many times told that 0 and 1 are unlike, all known from day 0 on. */
    private static MadeOf unlikes(int n) {
        MadeOf x = Built.parts(3);
        for (int u = 0; u < n; u++) {
            x.unlike(0, 1, 0);
        }
        return x;
    }

    // Promise 9: join

    @Says(promise = 9, words = "A JOIN: its number.")
    static void joinsAreNumberedFromZero(Due due) {
        MadeOf x = Built.parts(30);
        for (int j = 0; j < 40; j++) {
            due.accepted(x, "join " + j, x.join(j % 30, (j + 7) % 30, j), j);
        }
    }

    @Says(promise = 9, words = "DAYS 0 .. 10,000.")
    static void joinKnownFromTheFirstDay(Due due) {
        MadeOf x = Built.parts(2);
        due.accepted(x, "join(0, 1, 0)", x.join(0, 1, 0), 0);
        due.is("group(1, 0)", x.group(1, 0), 0);
    }

    @Says(promise = 9, words = "DAYS 0 .. 10,000.")
    static void joinKnownFromTheLastDay(Due due) {
        MadeOf x = Built.parts(2);
        due.accepted(x, "join(0, 1, 10000)", x.join(0, 1, LAST), 0);
        due.is("group(1, 9999)", x.group(1, LAST - 1), 1);
        due.is("group(1, 10000)", x.group(1, LAST), 0);
    }

    @Says(promise = 9, words = "-1 a number that can't be")
    static void joinOnNoDay(Due due) {
        MadeOf x = Built.parts(2);
        due.allRefused(x, "join known", Built.noDays(), day -> x.join(0, 1, day), -1);
        due.is("count(4)", x.count(4), 0);
        due.is("group(1, 10000)", x.group(1, LAST), 1);
    }

    @Says(promise = 9, words = "-2 there is no such PART")
    static void joinOfNoFirstPart(Due due) {
        MadeOf none = new MadeOf();
        due.allRefused(none, "join ahead of any part", Built.missing(0), p -> none.join(p, 1, 0), -2);
        MadeOf three = Built.parts(3);
        due.allRefused(three, "join with three parts", Built.missing(3), p -> three.join(p, 0, 0), -2);
        MadeOf full = Built.parts(30);
        due.allRefused(full, "join with all parts", Built.missing(30), p -> full.join(p, 0, 0), -2);
        due.is("count(4)", none.count(4) + three.count(4) + full.count(4), 0);
    }

    @Says(promise = 9, words = "-2 there is no such PART")
    static void joinOfNoSecondPart(Due due) {
        MadeOf three = Built.parts(3);
        due.allRefused(three, "join with three parts", Built.missing(3), p -> three.join(0, p, 0), -2);
        MadeOf full = Built.parts(30);
        due.allRefused(full, "join with all parts", Built.missing(30), p -> full.join(0, p, 0), -2);
        due.is("count(4)", three.count(4) + full.count(4), 0);
    }

    @Says(promise = 9, words = "-4 twice (a MAKE; a LINK from a MAKE to itself; what is CUT, UNDONE already; a PART with itself)")
    static void joinWithItself(Due due) {
        MadeOf x = Built.parts(30);
        for (int p = 0; p < 30; p++) {
            due.refused(x, "join of " + p + " with itself", x.join(p, p, 0), -4);
        }
        due.is("count(4)", x.count(4), 0);
    }

    @Says(promise = 9, words = "JOINS, 40 at most: two PARTS are one, known from a DAY on.")
    static void joinOfTheSameTwoAgain(Due due) {
        MadeOf x = joins(1);
        due.accepted(x, "join(0, 1, 0)", x.join(0, 1, 0), 1);
        due.accepted(x, "join(1, 0, 0)", x.join(1, 0, 0), 2);
    }

    @Says(promise = 9, words = "JOINS, 40 at most: two PARTS are one, known from a DAY on.")
    static void joinOfTwoThatAreUnlike(Due due) {
        MadeOf x = unlikes(1);
        due.accepted(x, "join(0, 1, 0)", x.join(0, 1, 0), 0);
        due.is("count(4)", x.count(4), 1);
    }

    @Says(promise = 9, words = "JOINS, 40 at most")
    static void joinFortyIsTheLast(Due due) {
        MadeOf x = joins(39);
        due.accepted(x, "join 39", x.join(2, 1, 0), 39);
        due.is("count(4)", x.count(4), 40);
        due.is("group(2, 0), by the last join", x.group(2, 0), 0);
    }

    @Says(promise = 9, words = "-5 no room")
    static void joinWithoutRoom(Due due) {
        MadeOf x = joins(40);
        due.refused(x, "join 40", x.join(2, 1, 0), -5);
        due.refused(x, "join 40 again", x.join(0, 1, 0), -5);
        due.is("count(4)", x.count(4), 40);
        due.is("group(2, 0)", x.group(2, 0), 2);
    }

    @Says(promise = 9, words = "JOINS, 40 at most")
    static void joinThatIsUndoneStillTakesRoom(Due due) {
        MadeOf x = joins(40);
        x.undo(0);
        x.undo(39);
        due.refused(x, "join 40", x.join(2, 1, 0), -5);
        due.is("count(4)", x.count(4), 40);
    }

    @Says(promise = 9, words = "JOINS, 40 at most")
    static void joinHasRoomBesideAllUnlikes(Due due) {
        MadeOf x = unlikes(40);
        due.accepted(x, "join(0, 2, 0)", x.join(0, 2, 0), 0);
    }

    @Says(promise = 9, words = "The first of these in that order.")
    static void joinOnNoDayOfNoPart(Due due) {
        MadeOf x = Built.parts(3);
        due.allRefused(x, "join(3, 0) known", Built.noDays(), day -> x.join(3, 0, day), -1);
        due.allRefused(x, "join(0, -1) known", Built.noDays(), day -> x.join(0, -1, day), -1);
    }

    @Says(promise = 9, words = "The first of these in that order.")
    static void joinOnNoDayWithItself(Due due) {
        MadeOf x = Built.parts(3);
        due.allRefused(x, "join(1, 1) known", Built.noDays(), day -> x.join(1, 1, day), -1);
    }

    @Says(promise = 9, words = "The first of these in that order.")
    static void joinOnNoDayWithoutRoom(Due due) {
        MadeOf x = joins(40);
        due.allRefused(x, "join(0, 1) known", Built.noDays(), day -> x.join(0, 1, day), -1);
    }

    @Says(promise = 9, words = "The first of these in that order.")
    static void joinOfNoPartWithItself(Due due) {
        MadeOf x = Built.parts(3);
        due.allRefused(x, "join of both", Built.missing(3), p -> x.join(p, p, 0), -2);
    }

    @Says(promise = 9, words = "The first of these in that order.")
    static void joinOfNoPartWithoutRoom(Due due) {
        MadeOf x = joins(40);
        due.allRefused(x, "join of the first", Built.missing(3), p -> x.join(p, 0, 0), -2);
        due.allRefused(x, "join of the second", Built.missing(3), p -> x.join(0, p, 0), -2);
    }

    @Says(promise = 9, words = "The first of these in that order.")
    static void joinWithItselfWithoutRoom(Due due) {
        MadeOf x = joins(40);
        for (int p = 0; p < 3; p++) {
            due.refused(x, "join of " + p + " with itself", x.join(p, p, 0), -4);
        }
    }

    @Says(promise = 9, words = "REFUSED by")
    static void joinRefusedTakesNoNumber(Due due) {
        MadeOf x = joins(1);
        x.join(0, 2, -1);
        x.join(2, 3, 0);
        x.join(2, 2, 0);
        due.is("group(2, 10000)", x.group(2, LAST), 2);
        due.accepted(x, "join behind three that were refused", x.join(0, 2, 0), 1);
    }

    // Promise 10: undo

    @Says(promise = 10, words = "A JOIN is UNDONE, for all DAYS: 0.")
    static void undoIsForAllDays(Due due) {
        MadeOf x = Built.parts(2);
        x.join(0, 1, 10);
        due.accepted(x, "undo(0)", x.undo(0), 0);
        for (int day : new int[] {0, 9, 10, 11, LAST}) {
            due.is("group(1, " + day + ")", x.group(1, day), 1);
        }
    }

    @Says(promise = 10, words = "A JOIN is UNDONE, for all DAYS: 0.")
    static void undoEachOfAll(Due due) {
        MadeOf x = Built.parts(30);
        for (int j = 0; j < 29; j++) {
            x.join(j, j + 1, 0);
        }
        for (int j = 29; j < 40; j++) {
            x.join(0, 29, 0);
        }
        for (int j = 0; j < 40; j++) {
            due.accepted(x, "undo(" + j + ")", x.undo(j), 0);
        }
        for (int p = 0; p < 30; p++) {
            due.is("group(" + p + ", 10000)", x.group(p, LAST), p);
        }
    }

    @Says(promise = 10, words = "A JOIN is UNDONE")
    static void undoLeavesAnotherOfTheSameTwo(Due due) {
        MadeOf x = joins(2);
        x.undo(0);
        due.is("group(1, 0), one undone", x.group(1, 0), 0);
        x.undo(1);
        due.is("group(1, 0), both undone", x.group(1, 0), 1);
    }

    @Says(promise = 10, words = "-2 there is no such PART, MAKE, LINK, JOIN")
    static void undoOfNoJoin(Due due) {
        MadeOf none = Built.parts(2);
        due.allRefused(none, "undo ahead of any join", Built.missing(0), none::undo, -2);
        MadeOf two = joins(2);
        due.allRefused(two, "undo with two joins", Built.missing(2), two::undo, -2);
        MadeOf full = joins(40);
        due.allRefused(full, "undo with all joins", Built.missing(40), full::undo, -2);
        due.is("group(1, 0)", two.group(1, 0), 0);
    }

    @Says(promise = 10, words = "-2 there is no such PART, MAKE, LINK, JOIN")
    static void undoOfWhatIsUnlike(Due due) {
        MadeOf x = unlikes(2);
        due.refused(x, "undo(0) without a join", x.undo(0), -2);
        x.join(0, 1, 0);
        due.is("quarrels(0)", x.quarrels(0), 1);
    }

    @Says(promise = 10, words = "-4 twice (a MAKE; a LINK from a MAKE to itself; what is CUT, UNDONE already;")
    static void undoTwice(Due due) {
        MadeOf x = joins(40);
        x.undo(0);
        x.undo(39);
        due.refused(x, "undo(0)", x.undo(0), -4);
        due.refused(x, "undo(0) once more", x.undo(0), -4);
        due.refused(x, "undo(39)", x.undo(39), -4);
        due.accepted(x, "undo(1)", x.undo(1), 0);
    }

    @Says(promise = 10, words = "A JOIN is UNDONE")
    static void undoOfAQuarrel(Due due) {
        MadeOf x = unlikes(1);
        x.join(0, 1, 0);
        due.is("quarrels(0)", x.quarrels(0), 1);
        due.accepted(x, "undo(0)", x.undo(0), 0);
        due.is("quarrels(0), undone", x.quarrels(0), 0);
        due.refused(x, "undo(0)", x.undo(0), -4);
    }

    @Says(promise = 10, words = "A JOIN is UNDONE")
    static void undoneMayBeToldAnew(Due due) {
        MadeOf x = joins(1);
        x.undo(0);
        due.accepted(x, "join(0, 1, 5)", x.join(0, 1, 5), 1);
        due.is("group(1, 4)", x.group(1, 4), 1);
        due.is("group(1, 5)", x.group(1, 5), 0);
    }

    // Promise 11: unlike

    @Says(promise = 11, words = "UNLIKE: how many there are.")
    static void unlikeTellsHowManyThereAre(Due due) {
        MadeOf x = Built.parts(30);
        for (int u = 1; u <= 40; u++) {
            due.accepted(x, "unlike " + u, x.unlike(u % 30, (u + 7) % 30, u), u);
        }
    }

    @Says(promise = 11, words = "DAYS 0 .. 10,000.")
    static void unlikeKnownFromTheFirstDay(Due due) {
        MadeOf x = joins(1);
        due.accepted(x, "unlike(0, 1, 0)", x.unlike(0, 1, 0), 1);
        due.is("quarrels(0)", x.quarrels(0), 1);
    }

    @Says(promise = 11, words = "DAYS 0 .. 10,000.")
    static void unlikeKnownFromTheLastDay(Due due) {
        MadeOf x = joins(1);
        due.accepted(x, "unlike(0, 1, 10000)", x.unlike(0, 1, LAST), 1);
        due.is("quarrels(9999)", x.quarrels(LAST - 1), 0);
        due.is("quarrels(10000)", x.quarrels(LAST), 1);
    }

    @Says(promise = 11, words = "-1 a number that can't be")
    static void unlikeOnNoDay(Due due) {
        MadeOf x = joins(1);
        due.allRefused(x, "unlike known", Built.noDays(), day -> x.unlike(0, 1, day), -1);
        due.is("count(5)", x.count(5), 0);
        due.is("quarrels(10000)", x.quarrels(LAST), 0);
    }

    @Says(promise = 11, words = "-2 there is no such PART")
    static void unlikeOfNoFirstPart(Due due) {
        MadeOf none = new MadeOf();
        due.allRefused(none, "unlike ahead of any part", Built.missing(0), p -> none.unlike(p, 1, 0), -2);
        MadeOf three = Built.parts(3);
        due.allRefused(three, "unlike with three parts", Built.missing(3), p -> three.unlike(p, 0, 0), -2);
        MadeOf full = Built.parts(30);
        due.allRefused(full, "unlike with all parts", Built.missing(30), p -> full.unlike(p, 0, 0), -2);
        due.is("count(5)", none.count(5) + three.count(5) + full.count(5), 0);
    }

    @Says(promise = 11, words = "-2 there is no such PART")
    static void unlikeOfNoSecondPart(Due due) {
        MadeOf three = Built.parts(3);
        due.allRefused(three, "unlike with three parts", Built.missing(3), p -> three.unlike(0, p, 0), -2);
        MadeOf full = Built.parts(30);
        due.allRefused(full, "unlike with all parts", Built.missing(30), p -> full.unlike(0, p, 0), -2);
        due.is("count(5)", three.count(5) + full.count(5), 0);
    }

    @Says(promise = 11, words = "-4 twice (a MAKE; a LINK from a MAKE to itself; what is CUT, UNDONE already; a PART with itself)")
    static void unlikeWithItself(Due due) {
        MadeOf x = Built.parts(30);
        for (int p = 0; p < 30; p++) {
            due.refused(x, "unlike of " + p + " with itself", x.unlike(p, p, 0), -4);
        }
        due.is("count(5)", x.count(5), 0);
    }

    @Says(promise = 11, words = "UNLIKE, 40 at most: two PARTS are not, known from a DAY on.")
    static void unlikeOfTheSameTwoAgain(Due due) {
        MadeOf x = unlikes(1);
        due.accepted(x, "unlike(0, 1, 0)", x.unlike(0, 1, 0), 2);
        due.accepted(x, "unlike(1, 0, 0)", x.unlike(1, 0, 0), 3);
    }

    @Says(promise = 11, words = "UNLIKE, 40 at most: two PARTS are not, known from a DAY on.")
    static void unlikeOfTwoThatAreOne(Due due) {
        MadeOf x = joins(1);
        due.accepted(x, "unlike(1, 0, 5)", x.unlike(1, 0, 5), 1);
        due.is("group(1, 4)", x.group(1, 4), 0);
        due.is("group(1, 5)", x.group(1, 5), 1);
    }

    @Says(promise = 11, words = "UNLIKE, 40 at most")
    static void unlikeFortyIsTheLast(Due due) {
        MadeOf x = unlikes(39);
        x.join(0, 2, 0);
        due.accepted(x, "unlike 40", x.unlike(2, 0, 0), 40);
        due.is("count(5)", x.count(5), 40);
        due.is("quarrels(0), by the last one", x.quarrels(0), 1);
    }

    @Says(promise = 11, words = "-5 no room")
    static void unlikeWithoutRoom(Due due) {
        MadeOf x = unlikes(40);
        x.join(0, 2, 0);
        due.refused(x, "unlike 41", x.unlike(2, 0, 0), -5);
        due.refused(x, "unlike 41 again", x.unlike(0, 1, 0), -5);
        due.is("count(5)", x.count(5), 40);
        due.is("quarrels(0)", x.quarrels(0), 0);
    }

    @Says(promise = 11, words = "UNLIKE, 40 at most")
    static void unlikeHasRoomBesideAllJoins(Due due) {
        MadeOf x = joins(40);
        due.accepted(x, "unlike(0, 2, 0)", x.unlike(0, 2, 0), 1);
    }

    @Says(promise = 11, words = "The first of these in that order.")
    static void unlikeOnNoDayOfNoPart(Due due) {
        MadeOf x = Built.parts(3);
        due.allRefused(x, "unlike(3, 0) known", Built.noDays(), day -> x.unlike(3, 0, day), -1);
        due.allRefused(x, "unlike(0, -1) known", Built.noDays(), day -> x.unlike(0, -1, day), -1);
    }

    @Says(promise = 11, words = "The first of these in that order.")
    static void unlikeOnNoDayWithItself(Due due) {
        MadeOf x = Built.parts(3);
        due.allRefused(x, "unlike(1, 1) known", Built.noDays(), day -> x.unlike(1, 1, day), -1);
    }

    @Says(promise = 11, words = "The first of these in that order.")
    static void unlikeOnNoDayWithoutRoom(Due due) {
        MadeOf x = unlikes(40);
        due.allRefused(x, "unlike(0, 1) known", Built.noDays(), day -> x.unlike(0, 1, day), -1);
    }

    @Says(promise = 11, words = "The first of these in that order.")
    static void unlikeOfNoPartWithItself(Due due) {
        MadeOf x = Built.parts(3);
        due.allRefused(x, "unlike of both", Built.missing(3), p -> x.unlike(p, p, 0), -2);
    }

    @Says(promise = 11, words = "The first of these in that order.")
    static void unlikeOfNoPartWithoutRoom(Due due) {
        MadeOf x = unlikes(40);
        due.allRefused(x, "unlike of the first", Built.missing(3), p -> x.unlike(p, 0, 0), -2);
        due.allRefused(x, "unlike of the second", Built.missing(3), p -> x.unlike(0, p, 0), -2);
    }

    @Says(promise = 11, words = "The first of these in that order.")
    static void unlikeWithItselfWithoutRoom(Due due) {
        MadeOf x = unlikes(40);
        for (int p = 0; p < 3; p++) {
            due.refused(x, "unlike of " + p + " with itself", x.unlike(p, p, 0), -4);
        }
    }

    @Says(promise = 11, words = "REFUSED by")
    static void unlikeRefusedIsNotThere(Due due) {
        MadeOf x = joins(1);
        x.unlike(0, 1, -1);
        x.unlike(1, 3, 0);
        x.unlike(1, 1, 0);
        due.is("quarrels(10000)", x.quarrels(LAST), 0);
        due.accepted(x, "unlike behind three that were refused", x.unlike(0, 1, 0), 1);
    }

    // Promise 12: group

    @Says(promise = 12, words = "The lowest PART of the GROUP of a PART as known on a DAY; NONE.")
    static void groupOfOneAlone(Due due) {
        MadeOf x = Built.parts(30);
        for (int p = 0; p < 30; p++) {
            due.is("group(" + p + ", 0)", x.group(p, 0), p);
        }
    }

    @Says(promise = 12, words = "The lowest PART of the GROUP of a PART as known on a DAY; NONE.")
    static void groupOfAll(Due due) {
        MadeOf x = Built.parts(30);
        for (int p = 29; p > 0; p--) {
            x.join(p - 1, p, 0);
        }
        for (int p = 0; p < 30; p++) {
            due.is("group(" + p + ", 0)", x.group(p, 0), 0);
        }
    }

    @Says(promise = 12, words = "The lowest PART of the GROUP of a PART as known on a DAY; NONE.")
    static void groupOfNoPart(Due due) {
        due.all("group ahead of any part", Built.missing(0), p -> new MadeOf().group(p, 0), -1);
        MadeOf three = joins(1);
        due.all("group with three parts", Built.missing(3), p -> three.group(p, 0), -1);
        MadeOf full = Built.parts(30);
        due.all("group with all parts", Built.missing(30), p -> full.group(p, 0), -1);
    }

    @Says(promise = 12, words = "The lowest PART of the GROUP of a PART as known on a DAY; NONE.")
    static void groupOnNoDay(Due due) {
        MadeOf x = joins(1);
        due.all("group of one that is joined", Built.noDays(), day -> x.group(1, day), -1);
        due.all("group of one alone", Built.noDays(), day -> x.group(2, day), -1);
    }

    @Says(promise = 12, words = "of the JOINS that are known by then")
    static void groupByAJoinFromItsDayOn(Due due) {
        MadeOf x = Built.parts(2);
        x.join(1, 0, 10);
        due.is("group(1, 0)", x.group(1, 0), 1);
        due.is("group(1, 9)", x.group(1, 9), 1);
        due.is("group(1, 10)", x.group(1, 10), 0);
        due.is("group(1, 11)", x.group(1, 11), 0);
        due.is("group(1, 10000)", x.group(1, LAST), 0);
        due.is("group(0, 10)", x.group(0, 10), 0);
    }

    @Says(promise = 12, words = "not UNDONE")
    static void groupWithoutAJoinThatIsUndone(Due due) {
        MadeOf x = Built.parts(3);
        x.join(0, 1, 0);
        x.join(1, 2, 0);
        due.is("group(2, 0)", x.group(2, 0), 0);
        x.undo(0);
        due.is("group(2, 0), the middle one led there", x.group(2, 0), 1);
        due.is("group(1, 0)", x.group(1, 0), 1);
    }

    @Says(promise = 12, words = "GROUPS are the PARTS that are led together so.")
    static void groupOfPartsLedTogetherOverOthers(Due due) {
        MadeOf x = Built.parts(6);
        x.join(5, 4, 0);
        x.join(2, 3, 0);
        x.join(4, 3, 10);
        int[] before = {0, 1, 2, 2, 4, 4};
        int[] then = {0, 1, 2, 2, 2, 2};
        for (int p = 0; p < 6; p++) {
            due.is("group(" + p + ", 9)", x.group(p, 9), before[p]);
            due.is("group(" + p + ", 10)", x.group(p, 10), then[p]);
        }
    }

    @Says(promise = 12, words = "each is done unless it would bring two PARTS into one GROUP that are UNLIKE as known on k")
    static void groupWithoutAQuarrel(Due due) {
        MadeOf x = Built.parts(3);
        x.unlike(2, 0, 20);
        x.join(0, 1, 0);
        x.join(1, 2, 0);
        due.is("group(2, 19), not unlike yet", x.group(2, 19), 0);
        due.is("group(2, 20), unlike by the ends of a row", x.group(2, 20), 2);
        due.is("group(1, 20), the first join is done", x.group(1, 20), 0);
    }

    @Says(promise = 12, words = "in the order in which they were told")
    static void groupByTheJoinsInTheOrderTold(Due due) {
        MadeOf x = Built.parts(3);
        x.unlike(0, 2, 0);
        x.join(1, 2, 50);
        x.join(0, 1, 10);
        due.is("group(1, 10), the one that is known", x.group(1, 10), 0);
        due.is("group(1, 49)", x.group(1, 49), 0);
        due.is("group(1, 50), the one told first, though known last", x.group(1, 50), 1);
        due.is("group(2, 50)", x.group(2, 50), 1);
        due.is("group(0, 50)", x.group(0, 50), 0);
    }

    @Says(promise = 12, words = "not UNDONE, in the order in which they were told")
    static void groupByAQuarrelOnceWhatWasInItsWayIsUndone(Due due) {
        MadeOf x = Built.parts(3);
        x.unlike(0, 2, 0);
        x.join(1, 2, 0);
        x.join(0, 1, 0);
        due.is("group(1, 0)", x.group(1, 0), 1);
        x.undo(0);
        due.is("group(1, 0), the first one undone", x.group(1, 0), 0);
        due.is("group(2, 0)", x.group(2, 0), 2);
    }

    @Says(promise = 12, words = "each is done unless it would bring two PARTS into one GROUP that are UNLIKE as known on k")
    static void groupsGoOnBehindAQuarrel(Due due) {
        MadeOf x = Built.parts(4);
        x.unlike(0, 1, 0);
        x.join(0, 1, 0);
        x.join(1, 2, 0);
        x.join(3, 0, 0);
        due.is("group(2, 0)", x.group(2, 0), 1);
        due.is("group(3, 0)", x.group(3, 0), 0);
    }

    // Promise 13: quarrels

    @Says(promise = 13, words = "How many JOINS are QUARRELS as known on a DAY; NONE.")
    static void quarrelsWithoutAnyJoin(Due due) {
        due.is("quarrels(0) of a new object", new MadeOf().quarrels(0), 0);
        due.is("quarrels(10000) of a new object", new MadeOf().quarrels(LAST), 0);
        due.is("quarrels(0) of what is unlike alone", unlikes(40).quarrels(0), 0);
        due.is("quarrels(0) of joins alone", joins(40).quarrels(0), 0);
    }

    @Says(promise = 13, words = "How many JOINS are QUARRELS as known on a DAY; NONE.")
    static void quarrelsOfAllJoins(Due due) {
        MadeOf x = unlikes(1);
        for (int j = 1; j <= 40; j++) {
            x.join(j % 2, 1 - j % 2, 0);
            due.is("quarrels(0) of " + j, x.quarrels(0), j);
        }
    }

    @Says(promise = 13, words = "How many JOINS are QUARRELS as known on a DAY; NONE.")
    static void quarrelsOnNoDay(Due due) {
        due.all("quarrels of a new object", Built.noDays(), day -> new MadeOf().quarrels(day), -1);
        MadeOf x = unlikes(1);
        x.join(0, 1, 0);
        due.all("quarrels", Built.noDays(), x::quarrels, -1);
    }

    @Says(promise = 13, words = "of the JOINS that are known by then")
    static void quarrelsFromTheDayOfTheJoinOn(Due due) {
        MadeOf x = unlikes(1);
        x.join(0, 1, 10);
        due.is("quarrels(9)", x.quarrels(9), 0);
        due.is("quarrels(10)", x.quarrels(10), 1);
        due.is("quarrels(10000)", x.quarrels(LAST), 1);
    }

    @Says(promise = 13, words = "that are UNLIKE as known on k: then it is a QUARREL")
    static void quarrelsFromTheDayOfTheUnlikeOn(Due due) {
        MadeOf x = joins(1);
        x.unlike(0, 1, 10);
        due.is("quarrels(9)", x.quarrels(9), 0);
        due.is("quarrels(10)", x.quarrels(10), 1);
        due.is("quarrels(10000)", x.quarrels(LAST), 1);
    }

    @Says(promise = 13, words = "unless it would bring two PARTS into one GROUP that are UNLIKE")
    static void quarrelsByPartsThatNeitherIsOneOfTheJoined(Due due) {
        MadeOf x = Built.parts(4);
        x.unlike(0, 3, 0);
        x.join(0, 1, 0);
        x.join(2, 3, 0);
        due.is("quarrels(0), two groups", x.quarrels(0), 0);
        x.join(1, 2, 0);
        due.is("quarrels(0), of the join between them", x.quarrels(0), 1);
        due.is("group(2, 0)", x.group(2, 0), 2);
    }

    @Says(promise = 13, words = "unless it would bring two PARTS into one GROUP that are UNLIKE")
    static void quarrelsNotOfTwoThatAreOneAlready(Due due) {
        MadeOf x = joins(2);
        x.unlike(1, 2, 0);
        x.join(1, 0, 0);
        due.is("quarrels(0)", x.quarrels(0), 0);
        x.join(0, 2, 0);
        due.is("quarrels(0), of the one with part 2", x.quarrels(0), 1);
    }

    @Says(promise = 13, words = "not UNDONE")
    static void quarrelsWithoutThoseUndone(Due due) {
        MadeOf x = unlikes(1);
        x.join(0, 1, 0);
        x.join(1, 0, 0);
        due.is("quarrels(0)", x.quarrels(0), 2);
        x.undo(1);
        due.is("quarrels(0), one undone", x.quarrels(0), 1);
        x.undo(0);
        due.is("quarrels(0), both undone", x.quarrels(0), 0);
    }

    @Says(promise = 13, words = "in the order in which they were told")
    static void quarrelsByTheOrderTold(Due due) {
        MadeOf x = Built.parts(4);
        x.unlike(0, 2, 0);
        x.unlike(0, 3, 0);
        x.join(0, 1, 30);
        x.join(1, 2, 0);
        x.join(1, 3, 0);
        due.is("quarrels(29), both others are done", x.quarrels(29), 0);
        due.is("quarrels(30), the one told first is done", x.quarrels(30), 2);
        x.undo(0);
        due.is("quarrels(30), that one undone", x.quarrels(30), 0);
    }
}
