/** Promises 14 to 18: the tape, texts and their faults, and which makes are bad. */
public final class WarningTest {
    private static final int MIN = Integer.MIN_VALUE;
    private static final int MAX = Integer.MAX_VALUE;
    private static final Due DUE = new Due();

    public static void main(String[] args) {
        promise14Feed();
        promise14ByteOrder();
        promise15End();
        promise16Warning();
        promise16Room();
        promise16Texts();
        promise17Fault();
        promise17Places();
        promise17MostTests();
        promise18Bad();
        promise18Versions();
        promise18Groups();
        DUE.close("WarningTest");
    }

    private static String repeat(String text, int times) {
        return text.repeat(times);
    }

    private static MadeOf withParts(int parts) {
        MadeOf x = new MadeOf();
        for (int p = 0; p < parts; p++) {
            x.part(0);
        }
        return x;
    }

    private static void promise14Feed() {
        DUE.chapter("promise 14");
        MadeOf x = new MadeOf();
        for (int n = 20; n <= 200; n += 20) {
            DUE.is("feed", x.feed(MIN, MAX, -1, 0, 1), n);
        }
        DUE.is("feed beyond 200", x.feed(0, 0, 0, 0, 0), -1);
        DUE.is("count(7)", x.count(7), 200);
        x.end(181);
        DUE.is("feed behind 181", x.feed(0, 0, 0, 0, 0), -1);
        DUE.is("count(7)", x.count(7), 181);
        x.end(180);
        DUE.is("feed behind 180", x.feed(0, 0, 0, 0, 0), 200);
        x.end(3);
        DUE.is("feed behind 3", x.feed(0, 0, 0, 0, 0), 23);
    }

    private static void promise14ByteOrder() {
        DUE.chapter("promise 14, order");
        MadeOf x = withParts(1);
        // "bad " "0  a" "ny  " "    " "  or" and then " any"
        DUE.is("feed", x.feed(0x62616420, 0x30202061, 0x6e792020, 0x20202020, 0x20206f72), 20);
        DUE.is("feed", x.feed(0x20616e79, 0, 0, 0, 0), 40);
        DUE.is("end(24)", x.end(24), 24);
        DUE.is("warning()", x.warning(), 0);
        x.feed(0x20646162, 0x61202030, 0, 0, 0);
        DUE.is("warning() of bytes the other way round", x.warning(), -6);
        // A byte of 255 in the highest place, and in all others.
        x.feed(0x62616430, 0xff000000, 0, 0, 0);
        x.warning();
        DUE.is("fault()", x.fault(), 4);
        x.feed(0x62616430, 0x202020ff, 0, 0, 0);
        x.warning();
        DUE.is("fault()", x.fault(), 7);
    }

    private static void promise15End() {
        DUE.chapter("promise 15");
        MadeOf x = withParts(1);
        DUE.is("end(0)", x.end(0), 0);
        DUE.is("end(1)", x.end(1), -1);
        Due.type(x, "bad 0 any and then");
        for (int wrong : new int[] {-1, 19, 200, MIN, MAX}) {
            DUE.is("end(" + wrong + ")", x.end(wrong), -1);
            DUE.is("count(7)", x.count(7), 18);
        }
        DUE.is("end(18)", x.end(18), 18);
        DUE.is("end(9)", x.end(9), 9);
        DUE.is("end(10)", x.end(10), -1);
        DUE.is("count(7)", x.count(7), 9);
        DUE.is("warning()", x.warning(), 0);
    }

    private static void promise16Warning() {
        DUE.chapter("promise 16");
        MadeOf x = withParts(1);
        DUE.refused(x, "an empty tape", x.warning(), -6);
        DUE.accepted(x, "bad 0 any", Due.warn(x, "bad 0 any"), 0);
        DUE.is("count(7) behind a warning", x.count(7), 0);
        DUE.refused(x, "bad 0", Due.warn(x, "bad 0"), -6);
        DUE.is("count(7) behind a fault", x.count(7), 0);
        DUE.is("count(6)", x.count(6), 1);
        DUE.accepted(x, "bad 0 =1", Due.warn(x, "bad 0 =1"), 1);
        DUE.is("count(6)", x.count(6), 2);
        // A text that fails half-way leaves nothing behind in the one that comes next.
        x.make(0, 5, 0, 0);
        Due.warn(x, "bad 0 any or any or =5 or");
        DUE.accepted(x, "bad 0 =1", Due.warn(x, "bad 0 =1"), 2);
        DUE.is("bad(2, 0, 0)", x.bad(2, 0, 0), 0);
        Due.warn(x, "bad 0 >6 or");
        DUE.accepted(x, "bad 0 <9", Due.warn(x, "bad 0 <9"), 3);
        DUE.is("bad(3, 0, 0)", x.bad(3, 0, 0), 1);
        Due.warn(x, "bad 0 <4 or");
        DUE.accepted(x, "bad 0 >1", Due.warn(x, "bad 0 >1"), 4);
        DUE.is("bad(4, 0, 0)", x.bad(4, 0, 0), 1);
    }

    private static void promise16Room() {
        DUE.chapter("promise 16, room");
        MadeOf x = withParts(1);
        for (int w = 0; w < 19; w++) {
            DUE.accepted(x, "warning " + w, Due.warn(x, "bad 0 any"), w);
        }
        DUE.refused(x, "bad 0 x", Due.warn(x, "bad 0 x"), -6);
        DUE.is("fault()", x.fault(), 6);
        DUE.accepted(x, "warning 19", Due.warn(x, "bad 0 any"), 19);
        Due.type(x, "bad 0 x");
        DUE.refused(x, "a fault without room", x.warning(), -5);
        DUE.is("fault() of the latest that was read", x.fault(), -1);
        DUE.is("count(7) behind a fault without room", x.count(7), 0);
        DUE.is("end(1) of the empty tape", x.end(1), -1);
        DUE.refused(x, "an empty tape without room", x.warning(), -5);
        DUE.is("feed behind no room", x.feed(0, 0, 0, 0, 0), 20);
        x.end(0);
        DUE.refused(x, "a good text without room", Due.warn(x, "bad 0 any"), -5);
        DUE.is("feed behind a good text without room", x.feed(0, 0, 0, 0, 0), 20);
        DUE.is("fault() of the latest that was read", x.fault(), -1);
        DUE.is("count(6)", x.count(6), 20);
        DUE.is("bad(20, 0, 0)", x.bad(20, 0, 0), -1);
    }

    private static void promise16Texts() {
        DUE.chapter("promise 16, texts");
        MadeOf x = withParts(2);
        String[] good = {"bad0any", "  bad  1  any  ", "bad 0<1", "bad 0<=1", "bad 0 < = 1", "bad 0>1.2", "bad 0>=1.2.3",
            "bad 0=1 . 2 . 3", "bad 0 any and any or any", "bad 0<1and>2or=3", "bad 0 = 999.999.999", "bad 01 any",
            "bad 0 = 0000000999", "bad 0 " + repeat(" ", 191) + "any"};
        for (int i = 0; i < good.length; i++) {
            DUE.is("warning() of " + good[i], Due.warn(x, good[i]), i);
            DUE.is("fault() of " + good[i], x.fault(), -1);
        }
    }

    private static void promise17Fault() {
        DUE.chapter("promise 17");
        MadeOf x = new MadeOf();
        DUE.is("fault() ahead of any", x.fault(), -1);
        Due.warn(x, "bad 0 any");
        DUE.is("fault() without any part", x.fault(), 4);
        x.part(0);
        DUE.is("fault() until the next one", x.fault(), 4);
        Due.type(x, "bad 0 any");
        DUE.is("fault() until it is read", x.fault(), 4);
        x.warning();
        DUE.is("fault() of a good one", x.fault(), -1);
        x.warning();
        DUE.is("fault() of an empty tape", x.fault(), 0);
    }

    private static void faultAt(MadeOf x, String text, int place) {
        DUE.is("warning() of [" + text + "]", Due.warn(x, text), -6);
        DUE.is("fault() of [" + text + "]", x.fault(), place);
    }

    private static void promise17Places() {
        DUE.chapter("promise 17, places");
        MadeOf x = withParts(2);
        faultAt(x, "   ", 3);
        faultAt(x, "ba", 0);
        faultAt(x, "badd 0 any", 0);
        faultAt(x, "cad 0 any", 0);
        faultAt(x, "bac 0 any", 0);
        faultAt(x, "bad 0 bny", 6);
        faultAt(x, "bad 0 anyz", 6);
        faultAt(x, "bad 0 any er any", 10);
        faultAt(x, "bad 0 any ant any", 10);
        faultAt(x, " Bad 0 any", 1);
        faultAt(x, "bad", 3);
        faultAt(x, "bad  ", 5);
        faultAt(x, "bad any", 4);
        faultAt(x, "bad 2 any", 4);
        faultAt(x, "bad 99999999999999999999 any", 4);
        faultAt(x, "bad 4294967296 any", 4);
        faultAt(x, "bad -1 any", 4);
        faultAt(x, "bad 0", 5);
        faultAt(x, "bad 0 0 any", 6);
        faultAt(x, "bad 0 or any", 6);
        faultAt(x, "bad 0 1", 6);
        faultAt(x, "bad 0 <", 7);
        faultAt(x, "bad 0 <>1", 7);
        faultAt(x, "bad 0 ==1", 7);
        faultAt(x, "bad 0 =<1", 7);
        faultAt(x, "bad 0 <==1", 8);
        faultAt(x, "bad 0 <= any", 9);
        faultAt(x, "bad 0 <1000", 7);
        faultAt(x, "bad 0 <4294967297", 7);
        faultAt(x, "bad 0 <1.1000", 9);
        faultAt(x, "bad 0 <1.2.1000", 11);
        faultAt(x, "bad 0 <1.", 9);
        faultAt(x, "bad 0 <.1", 7);
        faultAt(x, "bad 0 <1..2", 9);
        faultAt(x, "bad 0 <1.2.", 11);
        faultAt(x, "bad 0 <1.2.3.", 12);
        faultAt(x, "bad 0 <1.2.3.4", 12);
        faultAt(x, "bad 0 <1 2", 9);
        faultAt(x, "bad 0 <1=2", 8);
        faultAt(x, "bad 0 any.1", 9);
        faultAt(x, "bad 0 anyor any", 6);
        faultAt(x, "bad 0 any orany", 10);
        faultAt(x, "bad 0 any any", 10);
        faultAt(x, "bad 0 any or", 12);
        faultAt(x, "bad 0 any and ", 14);
        faultAt(x, "bad 0 any or or any", 13);
        faultAt(x, "bad 0 any and or any", 14);
        faultAt(x, "bad 0 any bad 0 any", 10);
        faultAt(x, "bad 0 any\t", 9);
        faultAt(x, "bad 0 any\u0000", 9);
        faultAt(x, "bad\u00a00 any", 3);
        faultAt(x, "bad 0 any`", 9);
        faultAt(x, "bad 0 any{", 9);
        faultAt(x, "bad 0 =1/", 8);
        faultAt(x, "bad 0 =1:", 8);
        faultAt(x, repeat(" ", 197) + "bad", 200);
        faultAt(x, repeat("x", 200), 0);
        faultAt(x, "bad 0 =" + repeat("9", 193), 7);
    }

    private static void promise17MostTests() {
        DUE.chapter("promise 17, thirty tests");
        MadeOf x = withParts(1);
        x.make(0, 7, 0, 0);
        DUE.is("30 terms", Due.warn(x, "bad0=7" + repeat("or<0", 29)), 0);
        DUE.is("bad(0, 0, 0) by the first", x.bad(0, 0, 0), 1);
        DUE.is("30 terms", Due.warn(x, "bad0" + repeat("<0or", 29) + "=7"), 1);
        DUE.is("bad(1, 0, 0) by the last", x.bad(1, 0, 0), 1);
        DUE.is("30 tests in a term", Due.warn(x, "bad0" + repeat("<9and", 29) + "=7"), 2);
        DUE.is("bad(2, 0, 0)", x.bad(2, 0, 0), 1);
        DUE.is("30 tests in a term", Due.warn(x, "bad0" + repeat("<9and", 29) + "=6"), 3);
        DUE.is("bad(3, 0, 0)", x.bad(3, 0, 0), 0);
        faultAt(x, "bad0" + repeat("<0or", 30) + " <0", 4 + 120 + 1);
        faultAt(x, "bad0" + repeat("<0or", 30) + " any", 4 + 120 + 1);
        faultAt(x, "bad0" + repeat("<0and", 30) + "<0", 4 + 150);
        faultAt(x, "bad0" + repeat("<0or", 15) + repeat("<0and", 15) + "=0", 4 + 60 + 75);
        faultAt(x, "bad0" + repeat("<0or", 30), 4 + 120);
        faultAt(x, "bad0" + repeat("<0or", 29) + "<0 <0", 4 + 116 + 3);
    }

    private static void promise18Bad() {
        DUE.chapter("promise 18");
        MadeOf x = withParts(2);
        x.make(0, 1, 0, 0);
        x.make(1, 1, 0, 0);
        Due.warn(x, "bad 1 any");
        DUE.is("bad(0, 0, 0)", x.bad(0, 0, 0), 0);
        DUE.is("bad(0, 1, 0)", x.bad(0, 1, 0), 1);
        x.link(0, 1, 0, 0);
        DUE.is("bad(0, 0, 0), which has a bad one in it", x.bad(0, 0, 0), 0);
        for (int wrong : new int[] {-1, 10001, MIN, MAX}) {
            DUE.is("bad(0, 1, " + wrong + ")", x.bad(0, 1, wrong), -1);
        }
        for (int missing : new int[] {-1, 2, 60, 65, MIN, MAX}) {
            DUE.is("bad(0, " + missing + ", 0)", x.bad(0, missing, 0), -1);
            DUE.is("bad(" + missing + ", 1, 0)", x.bad(missing, 1, 0), -1);
        }
        DUE.is("bad(1, 1, 0)", x.bad(1, 1, 0), -1);
        // A make that comes later is bad as well.
        x.make(1, 9, 9, 9);
        DUE.is("bad(0, 2, 0)", x.bad(0, 2, 0), 1);
    }

    private static void holds(String test, String wanted) {
        MadeOf x = withParts(1);
        int[][] versions = {{0, 0, 0}, {0, 0, 1}, {1, 1, 999}, {1, 2, 2}, {1, 2, 3}, {1, 2, 4}, {1, 3, 0}, {2, 0, 0}, {999, 999, 999}};
        for (int[] v : versions) {
            x.make(0, v[0], v[1], v[2]);
        }
        DUE.is("warning of " + test, Due.warn(x, "bad 0 " + test), 0);
        for (int m = 0; m < versions.length; m++) {
            DUE.is("make " + m + " by " + test, x.bad(0, m, 0), wanted.charAt(m) - '0');
        }
    }

    private static void promise18Versions() {
        DUE.chapter("promise 18, versions");
        holds("any", "111111111");
        holds("<1.2.3", "111100000");
        holds("<=1.2.3", "111110000");
        holds("=1.2.3", "000010000");
        holds(">=1.2.3", "000011111");
        holds(">1.2.3", "000001111");
        holds("<2", "111111100");
        holds("=2", "000000010");
        holds(">1.2", "000111111");
        holds(">=1.3", "000000111");
        holds("<0", "000000000");
        holds("<=0", "100000000");
        holds(">0", "011111111");
        holds(">999.999.999", "000000000");
        holds(">=999.999.999", "000000001");
        holds("<999.999.999", "111111110");
        holds(">1 and <2", "001111100");
        holds("<1.2.3 or >2", "111100001");
        holds("<1.2.3 and >2", "000000000");
        holds("=1.2.2 or =1.2.4 or =0", "100101000");
        // "and" binds closer than "or".
        holds("=0 or >1 and <1.2.3", "101100000");
        holds(">1 and <1.2.3 or =0", "101100000");
        holds("any and =2", "000000010");
        holds("=2 and any", "000000010");
        holds("=2 or any", "111111111");
        holds("=1.2.3 and =1.2.4", "000000000");
        holds("<1.2.3 and <1.2 or >1.2.3 and >2 or =2", "111000011");
    }

    private static void promise18Groups() {
        DUE.chapter("promise 18, groups");
        MadeOf x = withParts(4);
        for (int p = 0; p < 4; p++) {
            x.make(p, p, 0, 0);
        }
        Due.warn(x, "bad 3 <3");
        x.join(3, 2, 10);
        x.join(2, 1, 20);
        x.unlike(1, 3, 30);
        String[] wanted = {"0000", "0010", "0110", "0010"};
        for (int i = 0; i < 4; i++) {
            for (int m = 0; m < 4; m++) {
                DUE.is("bad(0, " + m + ", " + i * 10 + ")", x.bad(0, m, i * 10), wanted[i].charAt(m) - '0');
            }
        }
        x.undo(0);
        DUE.is("bad(0, 2, 30)", x.bad(0, 2, 30), 0);
        DUE.is("bad(0, 2, 10)", x.bad(0, 2, 10), 0);
    }
}
