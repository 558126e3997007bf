/** Promises 1 to 13, 28 and 29: what is kept, what is refused, and groups. */
public final class KeepingTest {
    private static final int MIN = Integer.MIN_VALUE;
    private static final int MAX = Integer.MAX_VALUE;
    private static final Due DUE = new Due();

    public static void main(String[] args) {
        promise1NewObject();
        promise2Part();
        promise3Make();
        promise4Find();
        promise5Link();
        promise6Cut();
        promise7Counts();
        promise8Hold();
        promise9Join();
        promise10Undo();
        promise11Unlike();
        promise12Group();
        promise12GroupsOfManyJoins();
        promise13Quarrels();
        promise28Count();
        promise29Status();
        DUE.close("KeepingTest");
    }

    private static MadeOf withParts(int parts) {
        MadeOf x = new MadeOf();
        for (int p = 0; p < parts; p++) {
            x.part(p % 10);
        }
        return x;
    }

    /** Makes n of part 0, in versions 0.0.n. */
    private static MadeOf withMakes(int makes) {
        MadeOf x = withParts(1);
        for (int m = 0; m < makes; m++) {
            x.make(0, 0, 0, m);
        }
        return x;
    }

    private static void promise1NewObject() {
        DUE.chapter("promise 1");
        MadeOf x = new MadeOf();
        for (int what = 0; what <= 7; what++) {
            DUE.is("count(" + what + ")", x.count(what), 0);
        }
        DUE.is("status()", x.status(), 0);
        DUE.is("fault()", x.fault(), -1);
        DUE.is("find(0, 0, 0, 0)", x.find(0, 0, 0, 0), -1);
        DUE.is("group(0, 0)", x.group(0, 0), -1);
        DUE.is("quarrels(0)", x.quarrels(0), 0);
        DUE.is("calls(0)", x.calls(0), 0);
        DUE.is("counts(0, 0)", x.counts(0, 0), -1);
        DUE.is("ring(0, 0)", x.ring(0, 0), -1);
        DUE.is("told(0)", x.told(0), 0);
        MadeOf y = withParts(3);
        DUE.is("another object's parts", x.count(0), 0);
        DUE.is("its own parts", y.count(0), 3);
    }

    private static void promise2Part() {
        DUE.chapter("promise 2");
        MadeOf x = new MadeOf();
        for (int wrong : new int[] {-1, 10, MIN, MAX}) {
            DUE.refused(x, "part(" + wrong + ")", x.part(wrong), -1);
        }
        for (int p = 0; p < 30; p++) {
            DUE.accepted(x, "part " + p, x.part(p % 2 == 0 ? 0 : 9), p);
        }
        DUE.refused(x, "part 30", x.part(0), -5);
        DUE.refused(x, "part(10) without room", x.part(10), -1);
        DUE.is("count(0)", x.count(0), 30);
    }

    private static void promise3Make() {
        DUE.chapter("promise 3");
        MadeOf x = withParts(2);
        DUE.accepted(x, "make(0, 0, 0, 0)", x.make(0, 0, 0, 0), 0);
        DUE.accepted(x, "make(1, 0, 0, 0)", x.make(1, 0, 0, 0), 1);
        DUE.accepted(x, "make(0, 999, 999, 999)", x.make(0, 999, 999, 999), 2);
        DUE.accepted(x, "make(0, 0, 1, 0)", x.make(0, 0, 1, 0), 3);
        DUE.refused(x, "make(0, 0, 0, 0)", x.make(0, 0, 0, 0), -4);
        for (int wrong : new int[] {-1, 1000, MIN, MAX}) {
            DUE.refused(x, "make a " + wrong, x.make(0, wrong, 0, 0), -1);
            DUE.refused(x, "make b " + wrong, x.make(0, 0, wrong, 0), -1);
            DUE.refused(x, "make c " + wrong, x.make(0, 0, 0, wrong), -1);
        }
        for (int missing : new int[] {-1, 2, 30, MIN, MAX}) {
            DUE.refused(x, "make of part " + missing, x.make(missing, 0, 0, 0), -2);
            DUE.refused(x, "make a -1 of part " + missing, x.make(missing, -1, 0, 0), -1);
        }
        for (int m = 4; m < 60; m++) {
            DUE.accepted(x, "make " + m, x.make(1, 1, m, 0), m);
        }
        DUE.refused(x, "make 60", x.make(1, 2, 0, 0), -5);
        DUE.refused(x, "the first one again without room", x.make(0, 0, 0, 0), -4);
        DUE.refused(x, "of no part without room", x.make(2, 0, 0, 0), -2);
        DUE.is("count(1)", x.count(1), 60);
    }

    private static void promise4Find() {
        DUE.chapter("promise 4");
        MadeOf x = withParts(2);
        x.make(0, 1, 2, 3);
        x.make(1, 1, 2, 3);
        x.make(1, 0, 1, 0);
        DUE.is("find(0, 1, 2, 3)", x.find(0, 1, 2, 3), 0);
        DUE.is("find(1, 1, 2, 3)", x.find(1, 1, 2, 3), 1);
        DUE.is("find(1, 0, 1, 0)", x.find(1, 0, 1, 0), 2);
        DUE.is("find(0, 0, 1, 0)", x.find(0, 0, 1, 0), -1);
        DUE.is("find(0, 3, 2, 1)", x.find(0, 3, 2, 1), -1);
        DUE.is("find(1, 0, 0, 1000)", x.find(1, 0, 0, 1000), -1);
        DUE.is("find(1, -1, 1001, 0)", x.find(1, -1, 1001, 0), -1);
        for (int wrong : new int[] {-1, 2, 30, MIN, MAX}) {
            DUE.is("find of part " + wrong, x.find(wrong, 1, 2, 3), -1);
        }
        x.part(99);
        x.find(9, 9, 9, 9);
        DUE.is("status() is not find's", x.status(), -1);
    }

    private static void promise5Link() {
        DUE.chapter("promise 5");
        MadeOf x = withMakes(3);
        DUE.accepted(x, "link(0, 1, 0, 0)", x.link(0, 1, 0, 0), 0);
        DUE.accepted(x, "the same again", x.link(0, 1, 0, 0), 1);
        DUE.accepted(x, "link(2, 0, 3, 10000)", x.link(2, 0, 3, 10000), 2);
        for (int wrong : new int[] {-1, 4, MIN, MAX}) {
            DUE.refused(x, "link of sort " + wrong, x.link(0, 1, wrong, 0), -1);
        }
        for (int wrong : new int[] {-1, 10001, MIN, MAX}) {
            DUE.refused(x, "link on day " + wrong, x.link(0, 1, 0, wrong), -1);
            DUE.refused(x, "link from none on day " + wrong, x.link(9, 9, 0, wrong), -1);
        }
        for (int missing : new int[] {-1, 3, 60, 64, MIN, MAX}) {
            DUE.refused(x, "link from " + missing, x.link(missing, 0, 0, 0), -2);
            DUE.refused(x, "link to " + missing, x.link(0, missing, 0, 0), -2);
            DUE.refused(x, "link from and to " + missing, x.link(missing, missing, 0, 0), -2);
        }
        DUE.refused(x, "link(1, 1, 0, 0)", x.link(1, 1, 0, 0), -4);
        for (int l = 3; l < 200; l++) {
            DUE.accepted(x, "link " + l, x.link(l % 3, (l + 1) % 3, l % 4, l), l);
        }
        DUE.refused(x, "link 200", x.link(0, 1, 0, 0), -5);
        DUE.refused(x, "to itself without room", x.link(1, 1, 0, 0), -4);
        DUE.is("count(2)", x.count(2), 200);
    }

    private static void promise6Cut() {
        DUE.chapter("promise 6");
        MadeOf x = withMakes(2);
        x.link(0, 1, 0, 5);
        x.link(0, 1, 0, 5);
        for (int wrong : new int[] {-1, 10001, MIN, MAX}) {
            DUE.refused(x, "cut on day " + wrong, x.cut(0, wrong), -1);
            DUE.refused(x, "cut of none on day " + wrong, x.cut(9, wrong), -1);
        }
        for (int missing : new int[] {-1, 2, 200, MIN, MAX}) {
            DUE.refused(x, "cut(" + missing + ", 0)", x.cut(missing, 0), -2);
        }
        DUE.is("counts(0, 10000)", x.counts(0, 10000), 1);
        DUE.accepted(x, "cut(0, 10000)", x.cut(0, 10000), 0);
        DUE.is("counts(0, 9999)", x.counts(0, 9999), 1);
        DUE.is("counts(0, 10000)", x.counts(0, 10000), 0);
        DUE.refused(x, "cut(0, 10000)", x.cut(0, 10000), -4);
        DUE.refused(x, "cut(0, 7)", x.cut(0, 7), -4);
        DUE.is("counts(0, 8)", x.counts(0, 8), 1);
        DUE.accepted(x, "cut(1, 0), ahead of its day", x.cut(1, 0), 0);
        DUE.is("counts(1, 5)", x.counts(1, 5), 0);
        DUE.refused(x, "cut(1, 0)", x.cut(1, 0), -4);
        DUE.is("count(2)", x.count(2), 2);
    }

    private static void promise7Counts() {
        DUE.chapter("promise 7");
        MadeOf x = withMakes(2);
        x.link(0, 1, 3, 10);
        x.cut(0, 20);
        DUE.is("counts(0, 0)", x.counts(0, 0), 0);
        DUE.is("counts(0, 9)", x.counts(0, 9), 0);
        DUE.is("counts(0, 10)", x.counts(0, 10), 1);
        DUE.is("counts(0, 19)", x.counts(0, 19), 1);
        DUE.is("counts(0, 20)", x.counts(0, 20), 0);
        DUE.is("counts(0, 10000)", x.counts(0, 10000), 0);
        for (int wrong : new int[] {-1, 10001, MIN, MAX}) {
            DUE.is("counts(0, " + wrong + ")", x.counts(0, wrong), -1);
        }
        for (int missing : new int[] {-1, 1, 200, MIN, MAX}) {
            DUE.is("counts(" + missing + ", 0)", x.counts(missing, 0), -1);
        }
    }

    private static void promise8Hold() {
        DUE.chapter("promise 8");
        MadeOf x = withMakes(1);
        for (int wrong : new int[] {-1, 30, MIN, MAX}) {
            DUE.refused(x, "hold at site " + wrong, x.hold(wrong, 0, 0, 0, 0), -1);
            DUE.refused(x, "hold of none at site " + wrong, x.hold(wrong, 9, 0, 0, 0), -1);
        }
        for (int wrong : new int[] {-1, 10001, MIN, MAX}) {
            DUE.refused(x, "hold from " + wrong, x.hold(0, 0, wrong, 10000, 0), -1);
            DUE.refused(x, "hold to " + wrong, x.hold(0, 0, 0, wrong, 0), -1);
            DUE.refused(x, "hold known " + wrong, x.hold(0, 0, 0, 0, wrong), -1);
        }
        DUE.refused(x, "hold(0, 0, 5, 4, 0)", x.hold(0, 0, 5, 4, 0), -1);
        for (int missing : new int[] {-1, 1, 60, MIN, MAX}) {
            DUE.refused(x, "hold of " + missing, x.hold(0, missing, 0, 0, 0), -2);
        }
        for (int h = 1; h <= 100; h++) {
            DUE.accepted(x, "holding " + h, x.hold(h % 30, 0, 5, h % 2 == 0 ? 5 : 10000, 10000), h);
        }
        DUE.refused(x, "holding 101", x.hold(0, 0, 0, 0, 0), -5);
        DUE.refused(x, "of none without room", x.hold(0, 1, 0, 0, 0), -2);
        DUE.is("count(3)", x.count(3), 100);
    }

    private static void promise9Join() {
        DUE.chapter("promise 9");
        MadeOf x = withParts(3);
        DUE.accepted(x, "join(0, 1, 0)", x.join(0, 1, 0), 0);
        DUE.accepted(x, "join(1, 0, 10000), the same two", x.join(1, 0, 10000), 1);
        checkWrongPairs(x, true);
        for (int j = 2; j < 40; j++) {
            DUE.accepted(x, "join " + j, x.join(0, 2, j), j);
        }
        DUE.refused(x, "join 40", x.join(0, 1, 0), -5);
        DUE.refused(x, "with itself without room", x.join(1, 1, 0), -4);
        x.undo(0);
        DUE.refused(x, "join 40, one being undone", x.join(0, 1, 0), -5);
        DUE.is("count(4)", x.count(4), 40);
        DUE.is("count(5)", x.count(5), 0);
    }

    private static void checkWrongPairs(MadeOf x, boolean joined) {
        for (int wrong : new int[] {-1, 10001, MIN, MAX}) {
            DUE.refused(x, "known " + wrong, joined ? x.join(0, 1, wrong) : x.unlike(0, 1, wrong), -1);
            DUE.refused(x, "9 9 known " + wrong, joined ? x.join(9, 9, wrong) : x.unlike(9, 9, wrong), -1);
        }
        for (int missing : new int[] {-1, 3, 30, MIN, MAX}) {
            DUE.refused(x, "a " + missing, joined ? x.join(missing, 0, 0) : x.unlike(missing, 0, 0), -2);
            DUE.refused(x, "b " + missing, joined ? x.join(0, missing, 0) : x.unlike(0, missing, 0), -2);
            DUE.refused(x, "a, b " + missing, joined ? x.join(missing, missing, 0) : x.unlike(missing, missing, 0), -2);
        }
        DUE.refused(x, "1 1", joined ? x.join(1, 1, 0) : x.unlike(1, 1, 0), -4);
    }

    private static void promise10Undo() {
        DUE.chapter("promise 10");
        MadeOf x = withParts(3);
        x.join(0, 1, 3);
        x.join(1, 2, 3);
        for (int missing : new int[] {-1, 2, 40, MIN, MAX}) {
            DUE.refused(x, "undo(" + missing + ")", x.undo(missing), -2);
        }
        DUE.accepted(x, "undo(0)", x.undo(0), 0);
        DUE.refused(x, "undo(0)", x.undo(0), -4);
        DUE.is("group(1, 3)", x.group(1, 3), 1);
        DUE.is("group(1, 10000)", x.group(1, 10000), 1);
        DUE.is("group(2, 3)", x.group(2, 3), 1);
        DUE.accepted(x, "undo(1)", x.undo(1), 0);
        DUE.is("group(2, 3)", x.group(2, 3), 2);
        DUE.is("count(4)", x.count(4), 2);
        DUE.accepted(x, "join(0, 1, 0) again", x.join(0, 1, 0), 2);
        DUE.is("group(1, 0)", x.group(1, 0), 0);
    }

    private static void promise11Unlike() {
        DUE.chapter("promise 11");
        MadeOf x = withParts(3);
        DUE.accepted(x, "unlike(0, 1, 0)", x.unlike(0, 1, 0), 1);
        DUE.accepted(x, "unlike(1, 0, 10000), the same two", x.unlike(1, 0, 10000), 2);
        checkWrongPairs(x, false);
        for (int u = 3; u <= 40; u++) {
            DUE.accepted(x, "unlike " + u, x.unlike(0, 2, u), u);
        }
        DUE.refused(x, "unlike 41", x.unlike(0, 1, 0), -5);
        DUE.refused(x, "with itself without room", x.unlike(1, 1, 0), -4);
        DUE.is("count(5)", x.count(5), 40);
        DUE.is("count(4)", x.count(4), 0);
    }

    private static void promise12Group() {
        DUE.chapter("promise 12");
        MadeOf x = withParts(6);
        x.join(5, 4, 10);
        x.join(2, 3, 0);
        x.join(4, 3, 20);
        for (int p = 0; p < 6; p++) {
            DUE.is("group(" + p + ", 0)", x.group(p, 0), p == 3 ? 2 : p);
            DUE.is("group(" + p + ", 10)", x.group(p, 10), p == 3 ? 2 : p == 5 ? 4 : p);
            DUE.is("group(" + p + ", 20)", x.group(p, 20), p < 2 ? p : 2);
        }
        for (int wrong : new int[] {-1, 10001, MIN, MAX}) {
            DUE.is("group(0, " + wrong + ")", x.group(0, wrong), -1);
        }
        for (int missing : new int[] {-1, 6, 30, MIN, MAX}) {
            DUE.is("group(" + missing + ", 0)", x.group(missing, 0), -1);
        }
        // Part 0 carries its mates along from one join to the next.
        x.join(0, 1, 100);
        x.join(0, 2, 100);
        x.unlike(1, 2, 200);
        DUE.is("group(2, 100)", x.group(2, 100), 0);
        DUE.is("group(2, 200)", x.group(2, 200), 2);
        // Unlike from day 15 on: ends of a chain may be apart, and joins told first are done first.
        x.unlike(5, 2, 15);
        DUE.is("group(5, 14)", x.group(5, 14), 4);
        DUE.is("group(5, 20)", x.group(5, 20), 4);
        DUE.is("group(3, 20)", x.group(3, 20), 2);
        x.undo(0);
        DUE.is("group(4, 20)", x.group(4, 20), 2);
        DUE.is("group(5, 20)", x.group(5, 20), 5);
    }

    private static void promise12GroupsOfManyJoins() {
        DUE.chapter("promise 12, many");
        MadeOf x = withParts(30);
        for (int p = 29; p > 0; p--) {
            x.join(p, p - 1, 30 - p);
        }
        for (int p = 0; p < 30; p++) {
            DUE.is("group(" + p + ", 29)", x.group(p, 29), 0);
            DUE.is("group(" + p + ", 10)", x.group(p, 10), Math.min(p, 19));
        }
    }

    private static void promise13Quarrels() {
        DUE.chapter("promise 13");
        MadeOf x = withParts(4);
        x.join(0, 1, 50);
        x.unlike(0, 2, 10);
        x.join(1, 2, 20);
        x.join(2, 0, 30);
        DUE.is("quarrels(19)", x.quarrels(19), 0);
        DUE.is("quarrels(20): 0 and 1 are not joined yet", x.quarrels(20), 0);
        DUE.is("quarrels(30)", x.quarrels(30), 1);
        DUE.is("group(2, 30)", x.group(2, 30), 1);
        // On day 50 the join that was told first is done first, though it is known last.
        DUE.is("quarrels(50)", x.quarrels(50), 2);
        DUE.is("group(2, 50)", x.group(2, 50), 2);
        DUE.is("group(1, 50)", x.group(1, 50), 0);
        x.join(0, 1, 50);
        DUE.is("quarrels(50), two that are one already", x.quarrels(50), 2);
        x.undo(2);
        DUE.is("quarrels(50), one undone", x.quarrels(50), 1);
        x.unlike(1, 0, 60);
        DUE.is("quarrels(60)", x.quarrels(60), 2);
        DUE.is("quarrels(59)", x.quarrels(59), 1);
        for (int wrong : new int[] {-1, 10001, MIN, MAX}) {
            DUE.is("quarrels(" + wrong + ")", x.quarrels(wrong), -1);
        }
    }

    private static void promise28Count() {
        DUE.chapter("promise 28");
        MadeOf x = withParts(9);
        for (int m = 0; m < 8; m++) {
            x.make(m, 0, 0, m);
        }
        for (int i = 0; i < 7; i++) {
            x.link(i, i + 1, 0, 0);
        }
        for (int i = 0; i < 6; i++) {
            x.hold(i, i, 0, 1, 0);
        }
        for (int i = 0; i < 5; i++) {
            x.join(i, i + 1, 0);
        }
        for (int i = 0; i < 4; i++) {
            x.unlike(i, 8, 0);
        }
        for (int i = 0; i < 3; i++) {
            Due.warn(x, "bad 0 any");
        }
        Due.warn(x, "bad");
        Due.type(x, "ba");
        for (int what = 0; what <= 7; what++) {
            DUE.is("count(" + what + ")", x.count(what), 9 - what);
        }
        for (int wrong : new int[] {-1, 8, MIN, MAX}) {
            DUE.is("count(" + wrong + ")", x.count(wrong), -1);
        }
    }

    private static void promise29Status() {
        DUE.chapter("promise 29");
        MadeOf x = withMakes(2);
        x.part(10);
        // What only asks, feed and end leave the status alone, whatever they answer.
        x.find(5, 5, 5, 5);
        x.counts(5, 5);
        x.group(5, 5);
        x.quarrels(-1);
        x.feed(1, 1, 1, 1, 1);
        x.end(21);
        x.end(0);
        x.fault();
        x.bad(0, 0, 0);
        x.hit(0, 0, 0);
        x.way(0, 0, 0, 0);
        x.has(0, 0, 0, 0);
        x.since(0, 0, 0);
        x.gaps(5, 5, 5);
        x.ring(5, 5);
        x.calls(-1);
        x.told(5);
        x.count(9);
        DUE.is("status()", x.status(), -1);
        DUE.is("status() again", x.status(), -1);
        DUE.refused(x, "warning()", x.warning(), -6);
        DUE.accepted(x, "link(0, 1, 0, 0)", x.link(0, 1, 0, 0), 0);
        DUE.refused(x, "recall(0, 0, 0)", x.recall(0, 0, 0), -2);
        DUE.accepted(x, "cut(0, 0)", x.cut(0, 0), 0);
        DUE.refused(x, "cut(0, 0)", x.cut(0, 0), -4);
        DUE.accepted(x, "hold(0, 0, 0, 0, 0)", x.hold(0, 0, 0, 0, 0), 1);
        DUE.refused(x, "join(0, 0, 0)", x.join(0, 0, 0), -4);
        DUE.accepted(x, "a warning", Due.warn(x, "bad 0 any"), 0);
        DUE.refused(x, "undo(0)", x.undo(0), -2);
        DUE.accepted(x, "recall(0, 0, 0)", x.recall(0, 0, 0), 1);
    }
}
