/** Sentences of promises 1 to 4: a new object, part, make, find. */
final class Promises1To4 {
    private static final int ALL = 512;

    private Promises1To4() {
    }

    // Promise 1: A new object

    @Says(promise = 1, words = "No PARTS, MAKES, LINKS.")
    static void newHasNoParts(Due due) {
        due.is("count(0)", new MadeOf().count(0), 0);
        due.all("group", Built.missing(0), p -> new MadeOf().group(p, 0), -1);
        due.is("the first part", new MadeOf().part(9), 0);
    }

    @Says(promise = 1, words = "No PARTS, MAKES, LINKS.")
    static void newHasNoMakes(Due due) {
        due.is("count(1)", new MadeOf().count(1), 0);
        due.is("find(0, 0, 0, 0)", new MadeOf().find(0, 0, 0, 0), -1);
        due.is("ring(0, 0)", new MadeOf().ring(0, 0), -1);
        due.is("gaps(0, 0, 0)", new MadeOf().gaps(0, 0, 0), -1);
        due.is("the first make", Built.parts(1).make(0, 0, 0, 0), 0);
    }

    @Says(promise = 1, words = "No PARTS, MAKES, LINKS.")
    static void newHasNoLinks(Due due) {
        due.is("count(2)", new MadeOf().count(2), 0);
        due.is("counts(0, 10000)", new MadeOf().counts(0, Built.LAST_DAY), -1);
        due.is("calls(10000)", new MadeOf().calls(Built.LAST_DAY), 0);
        due.is("the first link", Built.makes(2).link(0, 1, 0, 0), 0);
    }

    @Says(promise = 1, words = "A new object")
    static void newHasNothingElse(Due due) {
        for (int what = 3; what <= 7; what++) {
            due.is("count(" + what + ")", new MadeOf().count(what), 0);
        }
        due.is("quarrels(10000)", new MadeOf().quarrels(Built.LAST_DAY), 0);
        due.is("fault()", new MadeOf().fault(), -1);
        due.is("status()", new MadeOf().status(), 0);
        due.is("told(0)", new MadeOf().told(0), 0);
    }

    @Says(promise = 1, words = "A new object")
    static void newRefusesWhatNeedsAnother(Due due) {
        MadeOf x = new MadeOf();
        due.refused(x, "make(0, 0, 0, 0)", x.make(0, 0, 0, 0), -2);
        due.refused(x, "link(0, 1, 0, 0)", x.link(0, 1, 0, 0), -2);
        due.refused(x, "cut(0, 0)", x.cut(0, 0), -2);
        due.refused(x, "hold(0, 0, 0, 0, 0)", x.hold(0, 0, 0, 0, 0), -2);
        due.refused(x, "join(0, 1, 0)", x.join(0, 1, 0), -2);
        due.refused(x, "undo(0)", x.undo(0), -2);
        due.refused(x, "unlike(0, 1, 0)", x.unlike(0, 1, 0), -2);
        due.refused(x, "warning()", x.warning(), -6);
        due.refused(x, "recall(0, 0, 0)", x.recall(0, 0, 0), -2);
    }

    @Says(promise = 1, words = "A new object")
    static void newAnswersNoQuestionOfAWarning(Due due) {
        MadeOf x = new MadeOf();
        due.is("bad(0, 0, 0)", x.bad(0, 0, 0), -1);
        due.is("hit(0, 0, 0)", x.hit(0, 0, 0), -1);
        due.is("way(0, 0, 0, -1)", x.way(0, 0, 0, -1), -1);
        due.is("has(0, 0, 0, 0)", x.has(0, 0, 0, 0), -1);
        due.is("since(0, 0, 0)", x.since(0, 0, 0), -1);
    }

    @Says(promise = 1, words = "A new object")
    static void newIsNewBesideAnOldOne(Due due) {
        MadeOf old = Built.things(5);
        old.link(0, 1, Built.GUESSED, 0);
        old.hold(0, 0, 0, 0, 0);
        old.join(0, 1, 0);
        old.unlike(2, 3, 0);
        Due.warn(old, "bad 0 any");
        old.feed(0, 0, 0, 0, 0);
        old.part(10);
        MadeOf x = new MadeOf();
        for (int what = 0; what <= 7; what++) {
            due.is("count(" + what + ") of the new one", x.count(what), 0);
        }
        due.is("status() of the new one", x.status(), 0);
        x.part(0);
        x.warning();
        due.is("count(0) of the old one", old.count(0), 5);
        due.is("status() of the old one", old.status(), -1);
        due.is("fault() of the old one", old.fault(), -1);
        due.is("count(7) of the old one", old.count(7), 20);
    }

    @Says(promise = 1, words = "An object is used for at most 512 calls after it has been made")
    static void newIsGoodForAllItsCalls(Due due) {
        MadeOf x = Built.things(30);
        int calls = 60;
        for (int m = 0; m < 30; m++, calls++) {
            x.make(m, 2, 0, 0);
        }
        for (int l = 0; l < 200; l++, calls++) {
            x.link(l % 60, (l + 1) % 60, l % 4, l);
        }
        for (int h = 0; h < 100; h++, calls++) {
            x.hold(h % 30, h % 60, h, Built.LAST_DAY, h);
        }
        for (int j = 0; j < 40; j++, calls += 2) {
            x.join(j % 29, j % 29 + 1, j);
            x.unlike(0, 29, j);
        }
        for (; calls < ALL - 2; calls++) {
            x.status();
        }
        due.is("call 511", x.count(2), 200);
        due.is("call 512", x.link(0, 1, 0, 0), -5);
    }

    // Promise 2: part

    @Says(promise = 2, words = "A PART: its number.")
    static void partsAreNumberedFromZero(Due due) {
        MadeOf x = new MadeOf();
        for (int p = 0; p < 30; p++) {
            due.accepted(x, "part " + p, x.part(9 - p % 10), p);
        }
    }

    @Says(promise = 2, words = "MAKERS 0 .. 9.")
    static void partOfTheLowestMaker(Due due) {
        MadeOf x = new MadeOf();
        due.accepted(x, "part(0)", x.part(0), 0);
    }

    @Says(promise = 2, words = "MAKERS 0 .. 9.")
    static void partOfTheHighestMaker(Due due) {
        MadeOf x = new MadeOf();
        due.accepted(x, "part(9)", x.part(9), 0);
    }

    @Says(promise = 2, words = "-1 a number that can't be")
    static void partOfNoMaker(Due due) {
        MadeOf x = new MadeOf();
        due.allRefused(x, "part", Built.outside(9), x::part, -1);
        due.is("count(0)", x.count(0), 0);
    }

    @Says(promise = 2, words = "each of a MAKER")
    static void partKeepsItsMaker(Due due) {
        for (int maker = 0; maker < 10; maker++) {
            MadeOf x = new MadeOf();
            x.part(maker);
            x.make(0, 0, 0, 0);
            x.make(0, 0, 0, 1);
            x.link(0, 1, Built.GUESSED, 0);
            due.is("calls(0) for maker " + maker, x.calls(0), 1 << maker);
        }
    }

    @Says(promise = 2, words = "PARTS 0 .. 29 (30 at most)")
    static void partThirtyIsTheLast(Due due) {
        MadeOf x = Built.parts(29);
        due.accepted(x, "part 29", x.part(0), 29);
        due.is("count(0)", x.count(0), 30);
    }

    @Says(promise = 2, words = "-5 no room")
    static void partWithoutRoom(Due due) {
        MadeOf x = Built.parts(30);
        for (int maker = 0; maker < 10; maker++) {
            due.refused(x, "part 30 of maker " + maker, x.part(maker), -5);
        }
        due.is("count(0)", x.count(0), 30);
        due.is("group(30, 0)", x.group(30, 0), -1);
    }

    @Says(promise = 2, words = "The first of these in that order.")
    static void partOfNoMakerWithoutRoom(Due due) {
        MadeOf x = Built.parts(30);
        due.allRefused(x, "part", Built.outside(9), x::part, -1);
    }

    @Says(promise = 2, words = "REFUSED by")
    static void partRefusedTakesNoNumber(Due due) {
        MadeOf x = Built.parts(3);
        x.part(10);
        x.part(-1);
        due.accepted(x, "part(0) behind two that were refused", x.part(0), 3);
    }

    // Promise 3: make

    @Says(promise = 3, words = "A MAKE: its number.")
    static void makesAreNumberedFromZero(Due due) {
        MadeOf x = Built.parts(30);
        for (int m = 0; m < 60; m++) {
            due.accepted(x, "make " + m, x.make(29 - m % 30, m / 30, 0, 0), m);
        }
    }

    @Says(promise = 3, words = "three numbers (0 .. 999 each)")
    static void makeOfTheLowestVersion(Due due) {
        MadeOf x = Built.parts(1);
        due.accepted(x, "make(0, 0, 0, 0)", x.make(0, 0, 0, 0), 0);
        due.is("find(0, 0, 0, 0)", x.find(0, 0, 0, 0), 0);
    }

    @Says(promise = 3, words = "three numbers (0 .. 999 each)")
    static void makeOfTheHighestVersion(Due due) {
        MadeOf x = Built.parts(1);
        due.accepted(x, "make(0, 999, 0, 0)", x.make(0, 999, 0, 0), 0);
        due.accepted(x, "make(0, 0, 999, 0)", x.make(0, 0, 999, 0), 1);
        due.accepted(x, "make(0, 0, 0, 999)", x.make(0, 0, 0, 999), 2);
        due.accepted(x, "make(0, 999, 999, 999)", x.make(0, 999, 999, 999), 3);
    }

    @Says(promise = 3, words = "-1 a number that can't be")
    static void makeOfNoFirstNumber(Due due) {
        MadeOf x = Built.parts(1);
        due.allRefused(x, "make a", Built.outside(999), n -> x.make(0, n, 0, 0), -1);
        due.is("count(1)", x.count(1), 0);
    }

    @Says(promise = 3, words = "-1 a number that can't be")
    static void makeOfNoSecondNumber(Due due) {
        MadeOf x = Built.parts(1);
        due.allRefused(x, "make b", Built.outside(999), n -> x.make(0, 0, n, 0), -1);
        due.is("count(1)", x.count(1), 0);
    }

    @Says(promise = 3, words = "-1 a number that can't be")
    static void makeOfNoThirdNumber(Due due) {
        MadeOf x = Built.parts(1);
        due.allRefused(x, "make c", Built.outside(999), n -> x.make(0, 0, 0, n), -1);
        due.is("count(1)", x.count(1), 0);
    }

    @Says(promise = 3, words = "-2 there is no such PART")
    static void makeOfNoPart(Due due) {
        MadeOf none = new MadeOf();
        due.allRefused(none, "make ahead of any part", Built.missing(0), p -> none.make(p, 0, 0, 0), -2);
        MadeOf two = Built.parts(2);
        due.allRefused(two, "make with two parts", Built.missing(2), p -> two.make(p, 0, 0, 0), -2);
        MadeOf full = Built.parts(30);
        due.allRefused(full, "make with all parts", Built.missing(30), p -> full.make(p, 0, 0, 0), -2);
        due.is("count(1)", none.count(1) + two.count(1) + full.count(1), 0);
    }

    @Says(promise = 3, words = "a PART in a VERSION, three numbers (0 .. 999 each), no two alike")
    static void makeTwice(Due due) {
        MadeOf x = Built.parts(2);
        x.make(0, 1, 2, 3);
        x.make(1, 0, 0, 0);
        due.refused(x, "make(0, 1, 2, 3)", x.make(0, 1, 2, 3), -4);
        due.refused(x, "make(1, 0, 0, 0)", x.make(1, 0, 0, 0), -4);
        due.is("count(1)", x.count(1), 2);
    }

    @Says(promise = 3, words = "-4 twice (a MAKE;")
    static void makeAlikeInOneThingAlone(Due due) {
        MadeOf x = Built.parts(2);
        x.make(0, 1, 2, 3);
        due.accepted(x, "its version of another part", x.make(1, 1, 2, 3), 1);
        due.accepted(x, "another first number", x.make(0, 0, 2, 3), 2);
        due.accepted(x, "another second number", x.make(0, 1, 0, 3), 3);
        due.accepted(x, "another third number", x.make(0, 1, 2, 0), 4);
        due.accepted(x, "its numbers the other way round", x.make(0, 3, 2, 1), 5);
    }

    @Says(promise = 3, words = "-4 twice (a MAKE;")
    static void makeAlikeOnlyIfItsNumbersRanTogether(Due due) {
        MadeOf x = Built.parts(30);
        int[][] versions = {{0, 0, 0}, {0, 0, 1}, {0, 1, 0}, {1, 0, 0}, {0, 0, 10}, {0, 0, 100}, {0, 1, 1}, {0, 0, 11}, {1, 1, 0},
            {11, 0, 0}, {1, 0, 1}, {0, 0, 256}, {0, 1, 256}, {0, 0, 512}, {0, 999, 999}, {0, 0, 999}, {0, 999, 0}, {999, 0, 0}};
        for (int i = 0; i < versions.length; i++) {
            due.accepted(x, "version " + i, x.make(0, versions[i][0], versions[i][1], versions[i][2]), i);
        }
        due.accepted(x, "0.0.0 of part 1", x.make(1, 0, 0, 0), versions.length);
        due.accepted(x, "0.0.0 of part 29", x.make(29, 0, 0, 0), versions.length + 1);
    }

    @Says(promise = 3, words = "-4 twice (a MAKE;")
    static void makeOfPartsThatAreOneIsNotTwice(Due due) {
        MadeOf x = Built.parts(2);
        x.join(0, 1, 0);
        x.make(0, 1, 0, 0);
        due.accepted(x, "the same version of the other part", x.make(1, 1, 0, 0), 1);
    }

    @Says(promise = 3, words = "MAKES 0 .. 59 (60 at most)")
    static void makeSixtyIsTheLast(Due due) {
        MadeOf x = Built.makes(59);
        due.accepted(x, "make 59", x.make(0, 1, 0, 0), 59);
        due.is("count(1)", x.count(1), 60);
        due.is("find of make 59", x.find(0, 1, 0, 0), 59);
    }

    @Says(promise = 3, words = "-5 no room")
    static void makeWithoutRoom(Due due) {
        MadeOf x = Built.makes(60);
        due.refused(x, "make 60", x.make(0, 1, 0, 0), -5);
        due.refused(x, "make 60 again", x.make(0, 1, 0, 0), -5);
        due.is("count(1)", x.count(1), 60);
        due.is("find of make 60", x.find(0, 1, 0, 0), -1);
    }

    @Says(promise = 3, words = "The first of these in that order.")
    static void makeOfNoNumberAndNoPart(Due due) {
        MadeOf x = Built.parts(2);
        due.allRefused(x, "make a 1000", Built.missing(2), p -> x.make(p, 1000, 0, 0), -1);
        due.refused(x, "make b -1", x.make(2, 0, -1, 0), -1);
        due.refused(x, "make c 1000", x.make(2, 0, 0, 1000), -1);
    }

    @Says(promise = 3, words = "The first of these in that order.")
    static void makeOfNoNumberWithoutRoom(Due due) {
        MadeOf x = Built.makes(60);
        due.allRefused(x, "make c", Built.outside(999), n -> x.make(0, 1, 0, n), -1);
    }

    @Says(promise = 3, words = "The first of these in that order.")
    static void makeOfNoPartWithoutRoom(Due due) {
        MadeOf x = Built.makes(60);
        due.allRefused(x, "make", Built.missing(1), p -> x.make(p, 1, 0, 0), -2);
    }

    @Says(promise = 3, words = "The first of these in that order.")
    static void makeTwiceWithoutRoom(Due due) {
        MadeOf x = Built.makes(60);
        for (int m = 0; m < 60; m++) {
            due.refused(x, "make " + m + " again", x.make(0, 0, 0, m), -4);
        }
    }

    @Says(promise = 3, words = "REFUSED by")
    static void makeRefusedTakesNoNumber(Due due) {
        MadeOf x = Built.makes(2);
        x.make(0, 1000, 0, 0);
        x.make(1, 0, 0, 0);
        x.make(0, 0, 0, 1);
        due.accepted(x, "make behind three that were refused", x.make(0, 5, 0, 0), 2);
    }

    // Promise 4: find

    @Says(promise = 4, words = "The MAKE that is so")
    static void findEachOfAll(Due due) {
        MadeOf x = Built.parts(30);
        for (int m = 0; m < 60; m++) {
            x.make(m % 30, m % 2 * 999, m, 999 - m);
        }
        for (int m = 0; m < 60; m++) {
            due.is("find of make " + m, x.find(m % 30, m % 2 * 999, m, 999 - m), m);
        }
    }

    @Says(promise = 4, words = "The MAKE that is so; NONE.")
    static void findNoneAheadOfAny(Due due) {
        due.is("find(0, 0, 0, 0) without a part", new MadeOf().find(0, 0, 0, 0), -1);
        due.is("find(0, 0, 0, 0) without a make", Built.parts(1).find(0, 0, 0, 0), -1);
    }

    @Says(promise = 4, words = "The MAKE that is so; NONE.")
    static void findNoneThatDiffersInOneThing(Due due) {
        MadeOf x = Built.parts(2);
        x.make(0, 1, 2, 3);
        due.is("another part", x.find(1, 1, 2, 3), -1);
        due.is("another first number", x.find(0, 2, 2, 3), -1);
        due.is("another second number", x.find(0, 1, 3, 3), -1);
        due.is("another third number", x.find(0, 1, 2, 4), -1);
        due.is("the other way round", x.find(0, 3, 2, 1), -1);
    }

    @Says(promise = 4, words = "The MAKE that is so; NONE.")
    static void findNoneOfNoNumber(Due due) {
        MadeOf x = Built.makes(60);
        due.all("find a", Built.outside(999), n -> x.find(0, n, 0, 0), -1);
        due.all("find b", Built.outside(999), n -> x.find(0, 0, n, 0), -1);
        due.all("find c", Built.outside(999), n -> x.find(0, 0, 0, n), -1);
    }

    @Says(promise = 4, words = "The MAKE that is so; NONE.")
    static void findNoneWhoseNumbersRunOver(Due due) {
        MadeOf x = Built.parts(1);
        x.make(0, 1, 0, 0);
        x.make(0, 0, 1, 0);
        x.make(0, 0, 0, 0);
        due.is("find(0, 0, 0, 1000)", x.find(0, 0, 0, 1000), -1);
        due.is("find(0, 0, 1000, 0)", x.find(0, 0, 1000, 0), -1);
        due.is("find(0, 0, 999, 1000)", x.find(0, 0, 999, 1000), -1);
        due.is("find(0, 0, 2, -1000)", x.find(0, 0, 2, -1000), -1);
        due.is("find(0, 2, -1000, 0)", x.find(0, 2, -1000, 0), -1);
        due.is("find(0, 0, 0, 1024)", x.find(0, 0, 0, 1024), -1);
        due.is("find(0, 65536, 65536, 65536)", x.find(0, 65536, 65536, 65536), -1);
    }

    @Says(promise = 4, words = "The MAKE that is so; NONE.")
    static void findNoneOfNoPart(Due due) {
        MadeOf x = Built.makes(1);
        due.all("find", Built.missing(1), p -> x.find(p, 0, 0, 0), -1);
    }

    @Says(promise = 4, words = "The MAKE that is so; NONE.")
    static void findNoneOfAPartThatIsOneWithIt(Due due) {
        MadeOf x = Built.parts(2);
        x.join(0, 1, 0);
        x.make(0, 1, 0, 0);
        due.is("find(1, 1, 0, 0)", x.find(1, 1, 0, 0), -1);
        due.is("find(0, 1, 0, 0)", x.find(0, 1, 0, 0), 0);
    }

    @Says(promise = 4, words = "The MAKE that is so; NONE.")
    static void findNoneThatWasRefused(Due due) {
        MadeOf x = Built.makes(60);
        x.make(0, 7, 7, 7);
        due.is("find(0, 7, 7, 7)", x.find(0, 7, 7, 7), -1);
    }
}
