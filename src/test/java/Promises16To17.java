import java.util.List;

/** Sentences of promises 16 and 17: warning, fault. */
final class Promises16To17 {
    private static final List<String> SOME_TOKENS = List.of("bad", "or", "and", "any", "<", ">", "=", ".", "0", "999", "1000", "x",
        "A", "-", "\t", "\u0000", "\u00ff");

    private Promises16To17() {
    }

    private static MadeOf warnings(int n) {
        MadeOf x = Built.makes(1);
        for (int w = 0; w < n; w++) {
            Due.warn(x, "bad 0 any");
        }
        return x;
    }

    private static String filled(String text, int length) {
        return text + " ".repeat(length - text.length());
    }

    /** Each text becomes a warning, on an object that has parts 0 and 1. */
    private static void taken(Due due, String... texts) {
        for (String text : texts) {
            MadeOf x = Built.parts(2);
            due.accepted(x, "warning() of [" + text + "]", Due.warn(x, text), 0);
            due.is("fault() of [" + text + "]", x.fault(), -1);
        }
    }

    /** A text that is none, on an object that has parts 0 and 1, and the place of its fault. */
    private static void faulty(Due due, String text, int place) {
        MadeOf x = Built.parts(2);
        due.refused(x, "warning() of [" + text + "]", Due.warn(x, text), -6);
        due.is("fault() of [" + text + "]", x.fault(), place);
        due.is("count(6) behind [" + text + "]", x.count(6), 0);
    }

    /** Behind the beginning of a text these tokens can go on, and of all others each is a fault in its place. */
    private static void onlyGoOn(Due due, String beginning, boolean mayEnd, String... those) {
        List<String> can = List.of(those);
        for (String token : SOME_TOKENS) {
            MadeOf x = Built.parts(2);
            Due.warn(x, beginning + " " + token);
            boolean isFault = x.fault() == beginning.length() + 1;
            due.is("a fault of " + token + " behind [" + beginning + "]", isFault ? 1 : 0, can.contains(token) ? 0 : 1);
        }
        MadeOf x = Built.parts(2);
        due.is("warning() of [" + beginning + "]", Due.warn(x, beginning), mayEnd ? 0 : -6);
        due.is("fault() of [" + beginning + "]", x.fault(), mayEnd ? -1 : beginning.length());
    }

    // Promise 16: warning

    @Says(promise = 16, words = "becomes a WARNING: its number.")
    static void warningsAreNumberedFromZero(Due due) {
        MadeOf x = Built.parts(1);
        for (int w = 0; w < 20; w++) {
            due.accepted(x, "warning " + w, Due.warn(x, "bad 0 any"), w);
            due.is("count(6)", x.count(6), w + 1);
        }
    }

    @Says(promise = 16, words = "The TAPE, which is empty then")
    static void warningEmptiesTheTape(Due due) {
        MadeOf x = Built.parts(1);
        due.is("bad 0 any", Due.warn(x, "bad 0 any"), 0);
        due.is("count(7)", x.count(7), 0);
        due.is("end(1)", x.end(1), -1);
        due.is("feed", x.feed(0, 0, 0, 0, 0), 20);
    }

    @Says(promise = 16, words = "The TAPE, which is empty then")
    static void warningEmptiesTheTapeBehindAFault(Due due) {
        MadeOf x = Built.parts(1);
        due.is("bad 0", Due.warn(x, "bad 0"), -6);
        due.is("count(7)", x.count(7), 0);
        due.is("end(1)", x.end(1), -1);
        due.is("bad 0 any", Due.warn(x, "bad 0 any"), 0);
    }

    @Says(promise = 16, words = "The TAPE, which is empty then")
    static void warningEmptiesTheTapeWithoutRoom(Due due) {
        MadeOf x = warnings(20);
        due.is("warning()", Due.warn(x, "bad 0 any"), -5);
        due.is("count(7)", x.count(7), 0);
        due.is("end(1)", x.end(1), -1);
        due.is("feed", x.feed(0, 0, 0, 0, 0), 20);
    }

    @Says(promise = 16, words = "A WARNING (20 at most)")
    static void warningTwentyIsTheLast(Due due) {
        MadeOf x = warnings(19);
        due.accepted(x, "warning 19", Due.warn(x, "bad 0 any"), 19);
        due.is("count(6)", x.count(6), 20);
        due.is("bad(19, 0, 0)", x.bad(19, 0, 0), 1);
    }

    @Says(promise = 16, words = "-5 20 there are (ahead of reading it)")
    static void warningWithoutRoom(Due due) {
        MadeOf x = warnings(20);
        due.refused(x, "warning 20", Due.warn(x, "bad 0 any"), -5);
        due.refused(x, "warning 20 again", Due.warn(x, "bad 0 any"), -5);
        due.is("count(6)", x.count(6), 20);
        due.is("bad(20, 0, 0)", x.bad(20, 0, 0), -1);
    }

    @Says(promise = 16, words = "-5 20 there are (ahead of reading it)")
    static void warningWithoutRoomIsNotRead(Due due) {
        MadeOf x = warnings(20);
        due.refused(x, "a text that can't be", Due.warn(x, "bad 0 x"), -5);
        due.is("fault()", x.fault(), -1);
        due.refused(x, "an empty tape", x.warning(), -5);
        due.is("fault()", x.fault(), -1);
    }

    @Says(promise = 16, words = "-6 a text that can't be")
    static void warningRefusedTakesNoNumber(Due due) {
        MadeOf x = warnings(19);
        for (int i = 0; i < 5; i++) {
            due.refused(x, "bad 0 x", Due.warn(x, "bad 0 x"), -6);
        }
        due.is("count(6)", x.count(6), 19);
        due.accepted(x, "warning 19", Due.warn(x, "bad 0 any"), 19);
    }

    @Says(promise = 16, words = "-6 FAULT is told.")
    static void warningOfAnEmptyTape(Due due) {
        MadeOf x = Built.parts(1);
        due.refused(x, "warning()", x.warning(), -6);
        due.is("fault()", x.fault(), 0);
        due.is("count(6)", x.count(6), 0);
    }

    @Says(promise = 16, words = "-6 FAULT is told.")
    static void warningRefusedLeavesNothingBehind(Due due) {
        MadeOf x = Built.makes(10);
        Due.warn(x, "bad 0 any or any and");
        due.is("bad 0 =0.0.5", Due.warn(x, "bad 0 =0.0.5"), 0);
        Due.warn(x, "bad 0 <0 or");
        due.is("bad 0 >0.0.5", Due.warn(x, "bad 0 >0.0.5"), 1);
        Due.warn(x, "bad 0 >9 or");
        due.is("bad 0 <0.0.5", Due.warn(x, "bad 0 <0.0.5"), 2);
        for (int m = 0; m < 10; m++) {
            due.is("bad(0, " + m + ", 0)", x.bad(0, m, 0), m == 5 ? 1 : 0);
            due.is("bad(1, " + m + ", 0)", x.bad(1, m, 0), m > 5 ? 1 : 0);
            due.is("bad(2, " + m + ", 0)", x.bad(2, m, 0), m < 5 ? 1 : 0);
        }
    }

    @Says(promise = 16, words = "a TEXT of at most 200 bytes")
    static void warningOfTwoHundredBytes(Due due) {
        taken(due, " ".repeat(191) + "bad 0 any", filled("bad 0 any", 200), "bad 0 " + " ".repeat(191) + "any",
            "bad 0 " + "any or ".repeat(27) + "any  ");
        String text = " ".repeat(186) + "bad 0 =0.0.999";
        MadeOf x = Built.parts(1);
        x.make(0, 0, 0, 99);
        x.make(0, 0, 0, 999);
        due.is("warning() of a text to the last byte", Due.warn(x, text), 0);
        due.is("bad(0, 0, 0)", x.bad(0, 0, 0), 0);
        due.is("bad(0, 1, 0)", x.bad(0, 1, 0), 1);
    }

    @Says(promise = 16, words = "any blanks (32) between TOKENS")
    static void warningWithoutBlanks(Due due) {
        taken(due, "bad0any", "bad1<1", "bad0<=1.2.3and>0or=5", "bad0=1or<2and>=3");
    }

    @Says(promise = 16, words = "any blanks (32) between TOKENS")
    static void warningWithManyBlanks(Due due) {
        taken(due, "   bad   0   any   ", "bad 0 < = 1 . 2 . 3 and > = 0 or = 5", "bad  0  =  1  .  2");
    }

    @Says(promise = 16, words = "any blanks (32) between TOKENS")
    static void warningWithNoOtherBytesForBlanks(Due due) {
        for (char c : new char[] {0, 9, 10, 11, 13, 31, 33, 95, 127, 128, 160, 255}) {
            faulty(due, "bad" + c + "0 any", 3);
            faulty(due, "bad 0" + c + "any", 5);
            faulty(due, "bad 0 any" + c, 9);
            faulty(due, c + "bad 0 any", 0);
        }
    }

    @Says(promise = 16, words = "longest rows of letters a .. z")
    static void warningOfLettersRunTogether(Due due) {
        faulty(due, "badany 0 any", 0);
        faulty(due, "bad 0 anyor any", 6);
        faulty(due, "bad 0 any orany", 10);
        faulty(due, "bad 0 any andany", 10);
        faulty(due, "b ad 0 any", 0);
        faulty(due, "bad 0 a ny", 6);
        faulty(due, "bad 0 any o r any", 10);
    }

    @Says(promise = 16, words = "longest rows of letters a .. z")
    static void warningOfWordsThatDifferInOneLetter(Due due) {
        for (String word : new String[] {"aad", "zad", "bzd", "baz", "ba", "b", "abad", "zbad", "bada", "badz"}) {
            faulty(due, word + " 0 any", 0);
        }
        for (String word : new String[] {"bny", "zny", "azy", "anz", "an", "a", "aany", "zany", "anya", "anyz"}) {
            faulty(due, "bad 0 " + word, 6);
        }
        for (String word : new String[] {"ar", "zr", "oa", "oz", "o", "r", "aor", "zor", "ora", "orz", "bnd", "abd", "anz", "an", "aand",
            "zand", "anda", "andz"}) {
            faulty(due, "bad 0 any " + word + " any", 10);
        }
    }

    @Says(promise = 16, words = "longest rows of letters a .. z")
    static void warningOfOtherLetters(Due due) {
        faulty(due, "BAD 0 any", 0);
        faulty(due, "baD 0 any", 0);
        faulty(due, "bad 0 Any", 6);
        faulty(due, "bad 0 anY", 6);
        faulty(due, "bad 0 any OR any", 10);
        faulty(due, "bad 0 any aNd any", 10);
        faulty(due, "bad 0 any`", 9);
        faulty(due, "bad 0 any{", 9);
    }

    @Says(promise = 16, words = "of digits, single other bytes")
    static void warningOfOtherBytesBehindARow(Due due) {
        for (char c : new char[] {'A', 'Z', 'M', '_', '`', '{', '@', '[', '-', 0xe4, 0xff, 0}) {
            faulty(due, "bad" + c + " 0 any", 3);
            faulty(due, "bad 0" + c + " any", 5);
            faulty(due, "bad 0 any" + c, 9);
            faulty(due, "bad 0 any or" + c, 12);
            faulty(due, "bad 0 =1" + c, 8);
            faulty(due, "bad 0 any" + c + c, 9);
        }
    }

    @Says(promise = 16, words = "of digits, single other bytes")
    static void warningOfDigitsRunTogether(Due due) {
        faulty(due, "bad 0 =1 2", 9);
        faulty(due, "bad 0 0 any", 6);
        faulty(due, "bad 0 =1000", 7);
        faulty(due, "bad 0 =1/", 8);
        faulty(due, "bad 0 =1:", 8);
        taken(due, "bad 0 =12.345.678");
    }

    @Says(promise = 16, words = "of digits, single other bytes")
    static void warningOfSignsEachForItself(Due due) {
        taken(due, "bad 0 < = 1", "bad 0 > = 1", "bad 0 <=1");
        faulty(due, "bad 0 <==1", 8);
        faulty(due, "bad 0 =1..2", 9);
        faulty(due, "bad 0 <<1", 7);
    }

    @Says(promise = 16, words = "\"bad\" PART TERM {\"or\" TERM}")
    static void warningOfOneTermOrMore(Due due) {
        taken(due, "bad 0 any", "bad 0 any or any", "bad 0 any or any or any");
        faulty(due, "bad 0", 5);
        faulty(due, "bad 0 or any", 6);
        faulty(due, "bad 0 any or", 12);
        faulty(due, "bad 0 any or or any", 13);
        faulty(due, "bad 0 any any", 10);
        faulty(due, "bad 0 any bad 0 any", 10);
    }

    @Says(promise = 16, words = "TERM: TEST {\"and\" TEST}")
    static void warningOfOneTestOrMore(Due due) {
        taken(due, "bad 0 any and any", "bad 0 any and any and =1", "bad 0 any and any or any and any");
        faulty(due, "bad 0 and any", 6);
        faulty(due, "bad 0 any and", 13);
        faulty(due, "bad 0 any and or any", 14);
        faulty(due, "bad 0 any or and any", 13);
        faulty(due, "bad 0 any and and any", 14);
    }

    @Says(promise = 16, words = "TEST: (\"<\" [\"=\"] | \">\" [\"=\"] | \"=\") VERSION | \"any\"")
    static void warningOfEachTest(Due due) {
        taken(due, "bad 0 <1", "bad 0 <=1", "bad 0 >1", "bad 0 >=1", "bad 0 =1", "bad 0 any");
        faulty(due, "bad 0 ==1", 7);
        faulty(due, "bad 0 =<1", 7);
        faulty(due, "bad 0 =>1", 7);
        faulty(due, "bad 0 <>1", 7);
        faulty(due, "bad 0 ><1", 7);
        faulty(due, "bad 0 1", 6);
        faulty(due, "bad 0 <any", 7);
        faulty(due, "bad 0 any 1", 10);
    }

    @Says(promise = 16, words = "VERSION: NUMBER [\".\" NUMBER [\".\" NUMBER]]")
    static void warningOfVersionsOfOneToThreeNumbers(Due due) {
        taken(due, "bad 0 =1", "bad 0 =1.2", "bad 0 =1.2.3");
        faulty(due, "bad 0 =", 7);
        faulty(due, "bad 0 =1.", 9);
        faulty(due, "bad 0 =1.2.", 11);
        faulty(due, "bad 0 =1.2.3.", 12);
        faulty(due, "bad 0 =1.2.3.4", 12);
        faulty(due, "bad 0 =.1", 7);
        faulty(due, "bad 0 =1 or .2", 12);
    }

    @Says(promise = 16, words = "NUMBERS to 999")
    static void warningOfNumbersToTheHighest(Due due) {
        taken(due, "bad 0 =0", "bad 0 =999", "bad 0 =999.999.999", "bad 0 =0.0.0");
    }

    @Says(promise = 16, words = "NUMBERS to 999")
    static void warningOfNumbersAboveTheHighest(Due due) {
        String[] above = {"1000", "1001", "9999", "10000", "65536", "65537", "4294967296", "4294967297", "18446744073709551616",
            "18446744073709551617", "9".repeat(180)};
        for (String number : above) {
            faulty(due, "bad 0 =" + number, 7);
            faulty(due, "bad 0 =1." + number, 9);
            faulty(due, "bad 0 =1.2." + number, 11);
        }
    }

    @Says(promise = 16, words = "NUMBERS to 999")
    static void warningOfNumbersWithZerosAhead(Due due) {
        taken(due, "bad 00 any", "bad 0001 any", "bad 0 =00", "bad 0 =0999", "bad 0 =" + "0".repeat(190) + "999");
        faulty(due, "bad 0 =01000", 7);
        faulty(due, "bad 002 any", 4);
        MadeOf x = Built.makes(10);
        due.is("warning()", Due.warn(x, "bad 0 =00.0.0007"), 0);
        due.is("bad(0, 7, 0)", x.bad(0, 7, 0), 1);
        due.is("bad(0, 0, 0)", x.bad(0, 0, 0), 0);
    }

    @Says(promise = 16, words = "PART one that is there")
    static void warningOfEachPart(Due due) {
        for (int p = 0; p < 30; p++) {
            MadeOf x = Built.parts(30);
            x.make(p, 1, 0, 0);
            x.make((p + 1) % 30, 1, 0, 0);
            due.is("warning() of part " + p, Due.warn(x, "bad " + p + " any"), 0);
            due.is("bad of its make", x.bad(0, 0, 0), 1);
            due.is("bad of another make", x.bad(0, 1, 0), 0);
        }
    }

    @Says(promise = 16, words = "PART one that is there")
    static void warningOfNoPart(Due due) {
        for (int parts = 0; parts <= 30; parts++) {
            MadeOf x = Built.parts(parts);
            due.refused(x, "warning() of part " + parts, Due.warn(x, "bad " + parts + " any"), -6);
            due.is("fault()", x.fault(), 4);
        }
        for (String part : new String[] {"2", "30", "256", "999", "1000", "65536", "4294967296", "4294967297", "-1", "a"}) {
            faulty(due, "bad " + part + " any", 4);
        }
    }

    @Says(promise = 16, words = "PART one that is there")
    static void warningOfAPartThatComesLater(Due due) {
        MadeOf x = Built.parts(1);
        due.refused(x, "bad 1 any", Due.warn(x, "bad 1 any"), -6);
        x.part(0);
        due.accepted(x, "bad 1 any, once it is there", Due.warn(x, "bad 1 any"), 0);
    }

    // Promise 17: fault

    @Says(promise = 17, words = "NONE without.")
    static void faultAheadOfAny(Due due) {
        due.is("fault()", new MadeOf().fault(), -1);
        MadeOf x = Built.parts(1);
        Due.type(x, "x");
        due.is("fault() of what is not read yet", x.fault(), -1);
    }

    @Says(promise = 17, words = "FAULT of the latest warning() that was read: its place")
    static void faultOfTheLatest(Due due) {
        MadeOf x = Built.parts(1);
        Due.warn(x, "bad x");
        due.is("fault()", x.fault(), 4);
        due.is("fault() again", x.fault(), 4);
        Due.warn(x, "bad 0 x");
        due.is("fault() of the next", x.fault(), 6);
        x.warning();
        due.is("fault() of an empty tape", x.fault(), 0);
    }

    @Says(promise = 17, words = "NONE without.")
    static void faultOfATextThatCanBe(Due due) {
        MadeOf x = Built.parts(1);
        Due.warn(x, "bad x");
        Due.warn(x, "bad 0 any");
        due.is("fault() behind one that had one", x.fault(), -1);
    }

    @Says(promise = 17, words = "FAULT of the latest warning() that was read")
    static void faultStaysBehindOneThatWasNotRead(Due due) {
        MadeOf x = warnings(20);
        due.is("warning()", Due.warn(x, "bad 0 x"), -5);
        due.is("fault()", x.fault(), -1);
        due.is("warning() of an empty tape", x.warning(), -5);
        due.is("fault()", x.fault(), -1);
    }

    @Says(promise = 17, words = "FAULT of the latest warning() that was read")
    static void faultStaysBehindOtherCalls(Due due) {
        MadeOf x = Built.makes(2);
        Due.warn(x, "bad 0 x");
        x.part(0);
        x.part(10);
        x.make(0, 9, 9, 9);
        x.link(0, 1, 0, 0);
        x.recall(0, 0, 0);
        Due.type(x, "bad");
        x.end(0);
        due.is("fault()", x.fault(), 6);
    }

    @Says(promise = 17, words = "(the end's: the TEXT's length)")
    static void faultAtTheEnd(Due due) {
        faulty(due, "", 0);
        faulty(due, " ", 1);
        faulty(due, "bad", 3);
        faulty(due, "bad   ", 6);
        faulty(due, "bad 0", 5);
        faulty(due, "bad 0 <", 7);
        faulty(due, "bad 0 <=", 8);
        faulty(due, "bad 0 =1.  ", 11);
        faulty(due, "bad 0 any or  ", 14);
        faulty(due, " ".repeat(200), 200);
        faulty(due, filled("bad 0", 200), 200);
        faulty(due, " ".repeat(197) + "bad", 200);
    }

    @Says(promise = 17, words = "the place of the first TOKEN that can't go on there")
    static void faultAtTheFirstTokenAlone(Due due) {
        faulty(due, "bad 9 x 1000 y", 4);
        faulty(due, "x bad 0 any", 0);
        faulty(due, "bad 0 =1000 x", 7);
        faulty(due, "bad 0 any x or x", 10);
    }

    @Says(promise = 17, words = "the place of the first TOKEN that can't go on there")
    static void faultAtTheTokensFirstByte(Due due) {
        faulty(due, "   badly 0 any", 3);
        faulty(due, "bad   99 any", 6);
        faulty(due, "bad 0   anything", 8);
        faulty(due, "bad 0 =   12345", 10);
        faulty(due, " ".repeat(199) + "x", 199);
        faulty(due, "x".repeat(200), 0);
    }

    @Says(promise = 17, words = "the place of the first TOKEN that can't go on there")
    static void faultBehindEachBeginning(Due due) {
        onlyGoOn(due, "", false, "bad");
        onlyGoOn(due, "bad", false, "0");
        onlyGoOn(due, "bad 0", false, "<", ">", "=", "any");
        onlyGoOn(due, "bad 0 any", true, "or", "and");
        onlyGoOn(due, "bad 0 any or", false, "<", ">", "=", "any");
        onlyGoOn(due, "bad 0 any and", false, "<", ">", "=", "any");
        onlyGoOn(due, "bad 0 any or any", true, "or", "and");
        onlyGoOn(due, "bad 0 any and any", true, "or", "and");
    }

    @Says(promise = 17, words = "the place of the first TOKEN that can't go on there")
    static void faultBehindEachSign(Due due) {
        onlyGoOn(due, "bad 0 <", false, "=", "0", "999");
        onlyGoOn(due, "bad 0 >", false, "=", "0", "999");
        onlyGoOn(due, "bad 0 =", false, "0", "999");
        onlyGoOn(due, "bad 0 < =", false, "0", "999");
        onlyGoOn(due, "bad 0 > =", false, "0", "999");
    }

    @Says(promise = 17, words = "the place of the first TOKEN that can't go on there")
    static void faultBehindEachNumber(Due due) {
        onlyGoOn(due, "bad 0 <1", true, ".", "or", "and");
        onlyGoOn(due, "bad 0 <1.", false, "0", "999");
        onlyGoOn(due, "bad 0 <1.2", true, ".", "or", "and");
        onlyGoOn(due, "bad 0 <1.2.", false, "0", "999");
        onlyGoOn(due, "bad 0 <1.2.3", true, "or", "and");
    }

    @Says(promise = 17, words = "30 TESTS at most")
    static void faultNotInThirtyTests(Due due) {
        taken(due, "bad0" + "<0or".repeat(29) + "<0", "bad0" + "<0and".repeat(29) + "<0",
            "bad0" + "<0or<0and".repeat(14) + "<0or=1.2.3", "bad0" + "<0or".repeat(29) + " any" + " ".repeat(76));
    }

    @Says(promise = 17, words = "30 TESTS at most (FAULT at the TOKEN that begins one more)")
    static void faultInThirtyOneTests(Due due) {
        faulty(due, "bad0" + "<0or".repeat(30) + "<0", 124);
        faulty(due, "bad0" + "<0or".repeat(30) + ">=1.2.3", 124);
        faulty(due, "bad0" + "<0or".repeat(30) + " any", 125);
        faulty(due, "bad0" + "<0and".repeat(30) + "<0", 154);
        faulty(due, "bad0" + "<0or<0and".repeat(15) + "  =0", 4 + 135 + 2);
        faulty(due, "bad0" + "<0or".repeat(35) + "<0", 124);
    }

    @Says(promise = 17, words = "30 TESTS at most (FAULT at the TOKEN that begins one more)")
    static void faultBehindThirtyTestsOfWhatIsNone(Due due) {
        faulty(due, "bad0" + "<0or".repeat(30), 124);
        faulty(due, "bad0" + "<0or".repeat(30) + "  ", 126);
        faulty(due, "bad0" + "<0or".repeat(29) + "<0 <0", 123);
        faulty(due, "bad0" + "<0or".repeat(29) + "<1000", 121);
        faulty(due, "bad0" + "<0or".repeat(30) + "or", 122);
    }

    @Says(promise = 17, words = "30 TESTS at most")
    static void faultNotFromTheTestsOfAnotherText(Due due) {
        MadeOf x = Built.parts(1);
        due.is("31 tests", Due.warn(x, "bad0" + "<0or".repeat(30) + "<0"), -6);
        due.is("30 tests behind them", Due.warn(x, "bad0" + "<0or".repeat(29) + "<0"), 0);
        due.is("30 tests behind these", Due.warn(x, "bad0" + "<0or".repeat(29) + "<0"), 1);
    }
}
