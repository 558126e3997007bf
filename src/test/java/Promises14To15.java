/** Sentences of promises 14 and 15: feed, end. What the tape has in it is told by the place of a fault. */
final class Promises14To15 {
    private static final int BLANKS = 0x20202020;

    private Promises14To15() {
    }

    /** Twenty blanks but for one byte. */
    private static int feedBlanksBut(MadeOf x, int place, int value) {
        int[] n = {BLANKS, BLANKS, BLANKS, BLANKS, BLANKS};
        int shift = 24 - place % 4 * 8;
        n[place / 4] = n[place / 4] & ~(255 << shift) | value << shift;
        return x.feed(n[0], n[1], n[2], n[3], n[4]);
    }

    private static int feedBlanks(MadeOf x) {
        return x.feed(BLANKS, BLANKS, BLANKS, BLANKS, BLANKS);
    }

    private static MadeOf fed(int times) {
        MadeOf x = Built.parts(1);
        for (int i = 0; i < times; i++) {
            feedBlanks(x);
        }
        return x;
    }

    /** Where the first byte is on the tape that is no blank; all of its bytes, if there is none. */
    private static int firstByte(MadeOf x) {
        x.warning();
        return x.fault();
    }

    // Promise 14: feed

    @Says(promise = 14, words = "how many it has")
    static void feedTellsHowManyBytes(Due due) {
        MadeOf x = new MadeOf();
        for (int n = 20; n <= 200; n += 20) {
            due.is("feed", x.feed(0, Built.MAX, Built.MIN, -1, 1), n);
            due.is("count(7)", x.count(7), n);
        }
    }

    @Says(promise = 14, words = "Twenty bytes come behind the TAPE, four of each number, the highest first")
    static void feedPutsEachByteInItsPlace(Due due) {
        MadeOf x = Built.parts(1);
        for (int place = 0; place < 20; place++) {
            feedBlanksBut(x, place, 'x');
            due.is("the byte at " + place, firstByte(x), place);
        }
    }

    @Says(promise = 14, words = "four of each number, the highest first")
    static void feedTheHighestByteFirst(Due due) {
        MadeOf x = Built.parts(1);
        // "bad " "0 =1" and ".2.3", with 0.0.1 as a make that would be bad if they were turned round
        x.feed(0x62616420, 0x30203d31, 0x2e322e33, BLANKS, BLANKS);
        due.is("warning()", x.warning(), 0);
        x.make(0, 1, 2, 3);
        due.is("bad(0, 0, 0)", x.bad(0, 0, 0), 1);
        x.feed(0x20646162, 0x313d2030, 0x332e322e, BLANKS, BLANKS);
        due.is("warning() of bytes turned round", x.warning(), -6);
    }

    @Says(promise = 14, words = "Twenty bytes come behind the TAPE")
    static void feedBytesOfAllValues(Due due) {
        for (int from = 0; from < 256; from += 64) {
            MadeOf x = Built.parts(1);
            for (int value = from; value < from + 64; value++) {
                feedBlanksBut(x, value % 20, value);
                due.is("the byte " + value, firstByte(x), value == 32 ? 20 : value % 20);
            }
        }
    }

    @Says(promise = 14, words = "Twenty bytes come behind the TAPE")
    static void feedKeepsTheHighestBit(Due due) {
        MadeOf x = Built.parts(1);
        // "bad 0 any" as it is, and with the highest bit of one byte set
        int[] text = {0x62616420, 0x3020616e, 0x79202020};
        for (int place = 0; place < 9; place++) {
            int[] n = text.clone();
            n[place / 4] |= 0x80 << 24 - place % 4 * 8;
            x.feed(n[0], n[1], n[2], BLANKS, BLANKS);
            due.is("warning() with the bit at " + place, x.warning(), -6);
        }
        x.feed(text[0], text[1], text[2], BLANKS, BLANKS);
        due.is("warning() as it is", x.warning(), 0);
    }

    @Says(promise = 14, words = "Twenty bytes come behind the TAPE")
    static void feedComesBehindWhatIsThere(Due due) {
        for (int times = 0; times < 10; times++) {
            MadeOf x = fed(times);
            feedBlanksBut(x, 0, 'x');
            due.is("the byte behind " + times * 20, firstByte(x), times * 20);
        }
        MadeOf x = fed(9);
        feedBlanksBut(x, 19, 'x');
        due.is("the last byte of all", firstByte(x), 199);
    }

    @Says(promise = 14, words = "Twenty bytes come behind the TAPE")
    static void feedComesBehindTheEnd(Due due) {
        MadeOf x = fed(2);
        x.end(7);
        due.is("feed behind 7", feedBlanksBut(x, 0, 'x'), 27);
        due.is("its first byte", firstByte(x), 7);
    }

    @Says(promise = 14, words = "NONE, if there would be more than 200.")
    static void feedUpToTwoHundred(Due due) {
        MadeOf x = fed(9);
        due.is("feed behind 180", feedBlanks(x), 200);
        due.is("count(7)", x.count(7), 200);
    }

    @Says(promise = 14, words = "NONE, if there would be more than 200.")
    static void feedBeyondTwoHundred(Due due) {
        for (int n = 181; n <= 200; n++) {
            MadeOf x = fed(10);
            x.end(n);
            due.is("feed behind " + n, feedBlanksBut(x, 0, 'x'), -1);
            due.is("count(7) behind " + n, x.count(7), n);
            due.is("what the tape has", firstByte(x), n);
        }
    }

    @Says(promise = 14, words = "NONE, if there would be more than 200.")
    static void feedAgainOnceThereIsRoom(Due due) {
        MadeOf x = fed(10);
        due.is("feed behind 200", feedBlanks(x), -1);
        x.end(180);
        due.is("feed behind 180", feedBlanks(x), 200);
        x.warning();
        due.is("feed on the empty tape", feedBlanks(x), 20);
    }

    @Says(promise = 14, words = "feed(int a, int b, int c, int d, int e)")
    static void feedOnATapeOfAnyEven(Due due) {
        MadeOf x = fed(0);
        due.is("feed on an empty tape", feedBlanks(x), 20);
        x.end(0);
        due.is("feed on a tape that was ended at 0", feedBlanks(x), 20);
        x.end(1);
        due.is("feed behind one byte", feedBlanks(x), 21);
    }

    // Promise 15: end

    @Says(promise = 15, words = "The TAPE has its first n bytes alone: n.")
    static void endAtEachPlace(Due due) {
        MadeOf x = fed(10);
        for (int n = 200; n >= 0; n--) {
            due.is("end(" + n + ")", x.end(n), n);
            due.is("count(7)", x.count(7), n);
        }
    }

    @Says(promise = 15, words = "The TAPE has its first n bytes alone: n.")
    static void endKeepsTheFirstBytes(Due due) {
        MadeOf x = Built.parts(1);
        feedBlanksBut(x, 8, 'x');
        due.is("end(9)", x.end(9), 9);
        due.is("the byte at 8", firstByte(x), 8);
        feedBlanksBut(x, 8, 'x');
        due.is("end(8)", x.end(8), 8);
        due.is("no byte, and so the length", firstByte(x), 8);
    }

    @Says(promise = 15, words = "The TAPE has its first n bytes alone: n.")
    static void endOfWhatItHas(Due due) {
        MadeOf x = fed(1);
        due.is("end(20)", x.end(20), 20);
        due.is("end(20) again", x.end(20), 20);
        due.is("count(7)", x.count(7), 20);
    }

    @Says(promise = 15, words = "The TAPE has its first n bytes alone: n.")
    static void endDropsTheOthersForGood(Due due) {
        MadeOf x = Built.parts(1);
        feedBlanksBut(x, 15, 'x');
        x.end(10);
        due.is("end(11)", x.end(11), -1);
        due.is("end(20)", x.end(20), -1);
        due.is("feed", feedBlanks(x), 30);
        due.is("no byte of what was dropped", firstByte(x), 30);
    }

    @Says(promise = 15, words = "The TAPE has its first n bytes alone: n.")
    static void endOfAnEmptyTape(Due due) {
        MadeOf x = new MadeOf();
        due.is("end(0)", x.end(0), 0);
        due.is("count(7)", x.count(7), 0);
        due.all("end", Built.missing(1), x::end, -1);
    }

    @Says(promise = 15, words = "NONE, if it has not so many, or n is below 0.")
    static void endBehindTheTape(Due due) {
        MadeOf x = fed(1);
        due.all("end", new int[] {21, 22, 40, 199, 200, 201, 256, 276, 65536, Built.MAX - 1, Built.MAX}, x::end, -1);
        due.is("count(7)", x.count(7), 20);
        MadeOf full = fed(10);
        due.all("end of all", new int[] {201, 202, 256, 400, 65536, Built.MAX}, full::end, -1);
        due.is("count(7)", full.count(7), 200);
    }

    @Says(promise = 15, words = "NONE, if it has not so many, or n is below 0.")
    static void endBelowZero(Due due) {
        MadeOf x = fed(1);
        due.all("end", new int[] {-1, -2, -20, -236, -256, -65536, Built.MIN + 20, Built.MIN + 1, Built.MIN}, x::end, -1);
        due.is("count(7)", x.count(7), 20);
    }
}
