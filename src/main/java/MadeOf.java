import java.util.Arrays;

/**
 * A keeper of what things are made of. What each call must answer stands in DOC.md; README.md says
 * how to use the class. Every row is made with the object, so that no call makes anything.
 */
public final class MadeOf {
    public static final int NONE = -1;

    private static final int LAST_DAY = 10_000;
    private static final int MAKERS = 10;
    private static final int SITES = 30;
    private static final int MOST_PARTS = 30;
    private static final int MOST_MAKES = 60;
    private static final int MOST_LINKS = 200;
    private static final int MOST_HOLDINGS = 100;
    private static final int MOST_PAIRS = 40;
    private static final int MOST_WARNINGS = 20;
    private static final int MOST_TESTS = 30;
    private static final int MOST_BYTES = 200;
    private static final int FEED_BYTES = 20;

    private static final int LAST_NUMBER = 999;
    private static final int LAST_VERSION = 999_999_999;
    private static final int[] VERSION_SCALE = {1_000_000, 1_000, 1};

    private static final int LISTED = 0;
    private static final int FOUND = 1;
    private static final int GUESSED = 3;

    private static final int SURE = 2;
    private static final int PERHAPS = 1;

    private static final int CANNOT_BE = -1;
    private static final int NO_SUCH = -2;
    private static final int TWICE = -4;
    private static final int NO_ROOM = -5;
    private static final int NO_TEXT = -6;

    private final Parts parts = new Parts();
    private final Makes makes = new Makes();
    private final Links links = new Links();
    private final Holdings holdings = new Holdings();
    private final Pairs joins = new Pairs();
    private final Pairs unlikes = new Pairs();
    private final Groups groups = new Groups();
    private final Tape tape = new Tape();
    private final Reader reader = new Reader(tape);
    private final Warning[] warnings = new Warning[MOST_WARNINGS];
    private final Ways ways = new Ways();
    private final Questions questions = new Questions();
    private int warningCount = 0;
    private int latestFault = NONE;
    private int refusedBy = 0;

    public MadeOf() {
        for (int w = 0; w < MOST_WARNINGS; w++) {
            warnings[w] = new Warning();
        }
    }

    public int part(int maker) {
        if (!isWithin(maker, MAKERS - 1)) {
            return refuse(CANNOT_BE);
        }
        if (parts.size >= MOST_PARTS) {
            return refuse(NO_ROOM);
        }
        return accept(parts.add(maker));
    }

    public int make(int part, int a, int b, int c) {
        if (!isVersion(a, b, c)) {
            return refuse(CANNOT_BE);
        }
        if (!isPart(part)) {
            return refuse(NO_SUCH);
        }
        int version = versionOf(a, b, c);
        if (makes.search(part, version) != NONE) {
            return refuse(TWICE);
        }
        if (makes.size >= MOST_MAKES) {
            return refuse(NO_ROOM);
        }
        return accept(makes.add(part, version));
    }

    public int find(int part, int a, int b, int c) {
        return isVersion(a, b, c) ? makes.search(part, versionOf(a, b, c)) : NONE;
    }

    public int link(int from, int to, int sort, int known) {
        if (!isWithin(sort, GUESSED) || !isDay(known)) {
            return refuse(CANNOT_BE);
        }
        if (!isMake(from) || !isMake(to)) {
            return refuse(NO_SUCH);
        }
        if (from == to) {
            return refuse(TWICE);
        }
        if (links.size >= MOST_LINKS) {
            return refuse(NO_ROOM);
        }
        return accept(links.add(from, to, sort, known));
    }

    public int cut(int link, int known) {
        if (!isDay(known)) {
            return refuse(CANNOT_BE);
        }
        if (!isLink(link)) {
            return refuse(NO_SUCH);
        }
        if (links.isCut(link)) {
            return refuse(TWICE);
        }
        links.cutFrom[link] = known;
        return accept(0);
    }

    public int counts(int link, int known) {
        if (!isLink(link) || !isDay(known)) {
            return NONE;
        }
        return links.isLive(link, known) ? 1 : 0;
    }

    public int hold(int site, int make, int from, int to, int known) {
        if (!isWithin(site, SITES - 1) || !isDay(from) || !isDay(to) || !isDay(known) || from > to) {
            return refuse(CANNOT_BE);
        }
        if (!isMake(make)) {
            return refuse(NO_SUCH);
        }
        if (holdings.size >= MOST_HOLDINGS) {
            return refuse(NO_ROOM);
        }
        return accept(holdings.add(site, make, from, to, known));
    }

    public int join(int a, int b, int known) {
        int why = whyNoPair(a, b, known, joins);
        return why != 0 ? refuse(why) : accept(joins.add(a, b, known));
    }

    public int undo(int join) {
        if (join < 0 || join >= joins.size) {
            return refuse(NO_SUCH);
        }
        if (joins.undone[join]) {
            return refuse(TWICE);
        }
        joins.undone[join] = true;
        return accept(0);
    }

    public int unlike(int a, int b, int known) {
        int why = whyNoPair(a, b, known, unlikes);
        return why != 0 ? refuse(why) : accept(unlikes.add(a, b, known) + 1);
    }

    public int group(int part, int known) {
        if (!isPart(part) || !isDay(known)) {
            return NONE;
        }
        groups.settle(joins, unlikes, known);
        return lowest(groups.members[part]);
    }

    public int quarrels(int known) {
        return isDay(known) ? groups.settle(joins, unlikes, known) : NONE;
    }

    public int feed(int a, int b, int c, int d, int e) {
        if (tape.size + FEED_BYTES > MOST_BYTES) {
            return NONE;
        }
        tape.add(a);
        tape.add(b);
        tape.add(c);
        tape.add(d);
        tape.add(e);
        return tape.size;
    }

    public int end(int n) {
        if (n < 0 || n > tape.size) {
            return NONE;
        }
        tape.size = n;
        return n;
    }

    public int warning() {
        // A refusal for want of room comes ahead of reading, so it tells no fault; the tape is empty behind any call.
        if (warningCount >= MOST_WARNINGS) {
            tape.size = 0;
            return refuse(NO_ROOM);
        }
        latestFault = reader.read(parts.size, warnings[warningCount]);
        tape.size = 0;
        if (latestFault != NONE) {
            return refuse(NO_TEXT);
        }
        warningCount++;
        return accept(warningCount - 1);
    }

    public int fault() {
        return latestFault;
    }

    public int bad(int warning, int make, int known) {
        if (!isWarning(warning) || !isMake(make) || !isDay(known)) {
            return NONE;
        }
        return contains(badMakes(warning, known), make) ? 1 : 0;
    }

    public int hit(int warning, int make, int known) {
        if (!isWarning(warning) || !isMake(make) || !isDay(known)) {
            return NONE;
        }
        return trace(warning, make, known);
    }

    public int way(int warning, int make, int known, int i) {
        if (!isWarning(warning) || !isMake(make) || !isDay(known) || i < -1) {
            return NONE;
        }
        int length = trace(warning, make, known) == 0 ? 0 : ways.distance(make) + 1;
        if (i == -1) {
            return length;
        }
        return i < length ? ways.walk(make, i) : NONE;
    }

    public int has(int warning, int site, int day, int known) {
        if (!isWarning(warning) || !isWithin(site, SITES - 1) || !isDay(day) || !isDay(known)) {
            return NONE;
        }
        if (contains(holdings.sitesWith(hitMakes(warning, known, false), day, known), site)) {
            return SURE;
        }
        return contains(holdings.sitesWith(hitMakes(warning, known, true), day, known), site) ? PERHAPS : 0;
    }

    public int since(int warning, int site, int known) {
        if (!isWarning(warning) || !isWithin(site, SITES - 1) || !isDay(known)) {
            return NONE;
        }
        return holdings.firstDay(site, hitMakes(warning, known, true), known);
    }

    public int gaps(int make, int known, int what) {
        if (!isMake(make) || !isDay(known) || !isWithin(what, 1)) {
            return NONE;
        }
        groups.settle(joins, unlikes, known);
        int found = groupsInside(make, FOUND, known);
        int listed = groupsInside(make, LISTED, known);
        return Integer.bitCount(what == 0 ? found & ~listed : listed & ~found);
    }

    public int ring(int make, int known) {
        if (!isMake(make) || !isDay(known)) {
            return NONE;
        }
        ways.lay(links, known, true);
        long leading = ways.spread(1L << make);
        // No link leads from a make to itself, so a make inside this one is a true step away.
        return (ways.inside[make] & leading) != 0 ? 1 : 0;
    }

    public int calls(int known) {
        if (!isDay(known)) {
            return NONE;
        }
        raiseQuestions(known);
        int best = (1 << MAKERS) - 1;
        for (int asked = best - 1; asked >= 0; asked--) {
            // Going down, so that of sets alike in size the lowest one is kept.
            if (Integer.bitCount(asked) <= Integer.bitCount(best) && questions.areSettledBy(asked)) {
                best = asked;
            }
        }
        return best;
    }

    public int recall(int warning, int day, int known) {
        if (!isDay(day) || !isDay(known)) {
            return refuse(CANNOT_BE);
        }
        if (!isWarning(warning)) {
            return refuse(NO_SUCH);
        }
        int having = holdings.sitesWith(hitMakes(warning, known, true), day, known);
        int fresh = having & ~warnings[warning].told;
        warnings[warning].told |= fresh;
        return accept(Integer.bitCount(fresh));
    }

    public int told(int warning) {
        return isWarning(warning) ? warnings[warning].told : 0;
    }

    public int count(int what) {
        switch (what) {
            case 0: return parts.size;
            case 1: return makes.size;
            case 2: return links.size;
            case 3: return holdings.size;
            case 4: return joins.size;
            case 5: return unlikes.size;
            case 6: return warningCount;
            case 7: return tape.size;
            default: return NONE;
        }
    }

    public int status() {
        return refusedBy;
    }

    private int refuse(int why) {
        refusedBy = why;
        return why;
    }

    private int accept(int answer) {
        refusedBy = 0;
        return answer;
    }

    private boolean isPart(int part) {
        return part >= 0 && part < parts.size;
    }

    private boolean isMake(int make) {
        return make >= 0 && make < makes.size;
    }

    private boolean isLink(int link) {
        return link >= 0 && link < links.size;
    }

    private boolean isWarning(int warning) {
        return warning >= 0 && warning < warningCount;
    }

    private static boolean isWithin(int n, int most) {
        return n >= 0 && n <= most;
    }

    private static boolean isDay(int day) {
        return isWithin(day, LAST_DAY);
    }

    private static boolean isVersion(int a, int b, int c) {
        return isWithin(a, LAST_NUMBER) && isWithin(b, LAST_NUMBER) && isWithin(c, LAST_NUMBER);
    }

    /** One number for all three, so that the order of versions is the order of numbers. */
    private static int versionOf(int a, int b, int c) {
        return a * VERSION_SCALE[0] + b * VERSION_SCALE[1] + c * VERSION_SCALE[2];
    }

    private static boolean contains(long set, int n) {
        return (set >>> n & 1L) != 0;
    }

    /** The lowest number in a set; NONE of an empty one. */
    private static int lowest(long set) {
        for (int n = 0; n < 64; n++) {
            if (contains(set, n)) {
                return n;
            }
        }
        return NONE;
    }

    /** What a join and an unlike are refused by; 0 if they are not. */
    private int whyNoPair(int a, int b, int known, Pairs pairs) {
        if (!isDay(known)) {
            return CANNOT_BE;
        }
        if (!isPart(a) || !isPart(b)) {
            return NO_SUCH;
        }
        if (a == b) {
            return TWICE;
        }
        return pairs.size >= MOST_PAIRS ? NO_ROOM : 0;
    }

    private long badMakes(int warning, int known) {
        groups.settle(joins, unlikes, known);
        Warning told = warnings[warning];
        int members = groups.members[told.part];
        long bad = 0;
        for (int m = 0; m < makes.size; m++) {
            if (contains(members, makes.part[m]) && told.covers(makes.version[m])) {
                bad |= 1L << m;
            }
        }
        return bad;
    }

    /** The makes that are hit, by guessed links too or for sure; the ways to the bad ones stay laid. */
    private long hitMakes(int warning, int known, boolean guessedToo) {
        ways.lay(links, known, guessedToo);
        return ways.spread(badMakes(warning, known));
    }

    /** How surely a make is hit; if it is, the ways stay laid of which its own is one. */
    private int trace(int warning, int make, int known) {
        if (contains(hitMakes(warning, known, false), make)) {
            return SURE;
        }
        return contains(hitMakes(warning, known, true), make) ? PERHAPS : 0;
    }

    /** The lowest parts of the groups to which a make has links of a sort that count, as bits. */
    private int groupsInside(int make, int sort, int known) {
        int inside = 0;
        for (int i = 0; i < links.size; i++) {
            if (links.from[i] == make && links.sort[i] == sort && links.isLive(i, known)) {
                int members = groups.members[makes.part[links.to[i]]];
                inside |= members & -members;
            }
        }
        return inside;
    }

    /** A question for each guessed link that counts, to the makers of both its parts. */
    private void raiseQuestions(int known) {
        questions.clear();
        for (int i = 0; i < links.size; i++) {
            if (links.sort[i] == GUESSED && links.isLive(i, known)) {
                questions.add(makerOf(links.from[i]), makerOf(links.to[i]));
            }
        }
    }

    private int makerOf(int make) {
        return parts.maker[makes.part[make]];
    }

    private static final class Parts {
        final int[] maker = new int[MOST_PARTS];
        int size = 0;

        int add(int itsMaker) {
            maker[size] = itsMaker;
            size++;
            return size - 1;
        }
    }

    private static final class Makes {
        final int[] part = new int[MOST_MAKES];
        final int[] version = new int[MOST_MAKES];
        int size = 0;

        int add(int itsPart, int itsVersion) {
            part[size] = itsPart;
            version[size] = itsVersion;
            size++;
            return size - 1;
        }

        int search(int itsPart, int itsVersion) {
            for (int m = 0; m < size; m++) {
                if (part[m] == itsPart && version[m] == itsVersion) {
                    return m;
                }
            }
            return NONE;
        }
    }

    private static final class Links {
        private static final int NEVER = LAST_DAY + 1;

        final int[] from = new int[MOST_LINKS];
        final int[] to = new int[MOST_LINKS];
        final int[] sort = new int[MOST_LINKS];
        final int[] knownFrom = new int[MOST_LINKS];
        final int[] cutFrom = new int[MOST_LINKS];
        int size = 0;

        int add(int holder, int held, int itsSort, int known) {
            from[size] = holder;
            to[size] = held;
            sort[size] = itsSort;
            knownFrom[size] = known;
            cutFrom[size] = NEVER;
            size++;
            return size - 1;
        }

        boolean isCut(int i) {
            return cutFrom[i] != NEVER;
        }

        boolean isLive(int i, int day) {
            return knownFrom[i] <= day && day < cutFrom[i];
        }
    }

    private static final class Holdings {
        private final int[] site = new int[MOST_HOLDINGS];
        private final int[] make = new int[MOST_HOLDINGS];
        private final int[] from = new int[MOST_HOLDINGS];
        private final int[] to = new int[MOST_HOLDINGS];
        private final int[] knownFrom = new int[MOST_HOLDINGS];
        int size = 0;

        int add(int itsSite, int itsMake, int first, int last, int known) {
            site[size] = itsSite;
            make[size] = itsMake;
            from[size] = first;
            to[size] = last;
            knownFrom[size] = known;
            size++;
            return size;
        }

        /** The sites that have one of the makes on a day, as bits. */
        int sitesWith(long makes, int day, int known) {
            int sites = 0;
            for (int h = 0; h < size; h++) {
                if (isOf(h, makes, known) && from[h] <= day && day <= to[h]) {
                    sites |= 1 << site[h];
                }
            }
            return sites;
        }

        /** The first day on which a site has one of the makes; NONE without. */
        int firstDay(int itsSite, long makes, int known) {
            int first = NONE;
            for (int h = 0; h < size; h++) {
                if (site[h] == itsSite && isOf(h, makes, known) && (first == NONE || from[h] < first)) {
                    first = from[h];
                }
            }
            return first;
        }

        private boolean isOf(int h, long makes, int known) {
            return knownFrom[h] <= known && contains(makes, make[h]);
        }
    }

    /** Two parts each, in the order in which they were told: as one, or as unlike. */
    private static final class Pairs {
        final int[] a = new int[MOST_PAIRS];
        final int[] b = new int[MOST_PAIRS];
        final boolean[] undone = new boolean[MOST_PAIRS];
        private final int[] knownFrom = new int[MOST_PAIRS];
        int size = 0;

        int add(int one, int other, int known) {
            a[size] = one;
            b[size] = other;
            knownFrom[size] = known;
            size++;
            return size - 1;
        }

        boolean isLive(int i, int day) {
            return knownFrom[i] <= day && !undone[i];
        }

        /** Whether a set of parts has both of some pair that is known on a day. */
        boolean hasOneWithin(int set, int day) {
            for (int i = 0; i < size; i++) {
                if (isLive(i, day) && contains(set, a[i]) && contains(set, b[i])) {
                    return true;
                }
            }
            return false;
        }
    }

    private static final class Groups {
        /** Of each part the parts of its group, as bits. */
        final int[] members = new int[MOST_PARTS];

        /** Makes the groups as known on a day, and tells how many joins are quarrels. */
        int settle(Pairs joins, Pairs unlikes, int day) {
            for (int p = 0; p < MOST_PARTS; p++) {
                members[p] = 1 << p;
            }
            int quarrelling = 0;
            for (int j = 0; j < joins.size; j++) {
                if (joins.isLive(j, day)) {
                    int merged = members[joins.a[j]] | members[joins.b[j]];
                    if (unlikes.hasOneWithin(merged, day)) {
                        quarrelling++;
                    } else {
                        merge(merged);
                    }
                }
            }
            return quarrelling;
        }

        private void merge(int merged) {
            for (int p = 0; p < MOST_PARTS; p++) {
                if (contains(merged, p)) {
                    members[p] = merged;
                }
            }
        }
    }

    /** The links of a day as a net, and how far each make is from some goal in it. */
    private static final class Ways {
        /** Of each make those that it has in it, as bits. */
        final long[] inside = new long[MOST_MAKES];
        /** In row n the makes whose shortest way to the goal has n links, as bits. */
        private final long[] layers = new long[MOST_MAKES];
        private int depth = 0;

        void lay(Links links, int day, boolean guessedToo) {
            Arrays.fill(inside, 0L);
            for (int i = 0; i < links.size; i++) {
                if (links.isLive(i, day) && (guessedToo || links.sort[i] != GUESSED)) {
                    inside[links.from[i]] |= 1L << links.to[i];
                }
            }
        }

        /** All that leads to the goal, the goal itself with it. */
        long spread(long goal) {
            long reached = 0;
            long layer = goal;
            depth = 0;
            while (layer != 0 && depth < MOST_MAKES) {
                layers[depth] = layer;
                depth++;
                reached |= layer;
                layer = holdersOf(layer) & ~reached;
            }
            return reached;
        }

        private long holdersOf(long makes) {
            long holders = 0;
            for (int m = 0; m < MOST_MAKES; m++) {
                if ((inside[m] & makes) != 0) {
                    holders |= 1L << m;
                }
            }
            return holders;
        }

        /** How many links the shortest way from a make to the goal has; NONE without a way. */
        int distance(int make) {
            for (int n = 0; n < depth; n++) {
                if (contains(layers[n], make)) {
                    return n;
                }
            }
            return NONE;
        }

        /** The make that stands some steps along the first of the shortest ways; NONE behind its end. */
        int walk(int make, int steps) {
            int at = make;
            int left = distance(make);
            for (int i = 0; i < steps; i++) {
                left--;
                if (at == NONE || left < 0) {
                    return NONE;
                }
                at = lowest(inside[at] & layers[left]);
            }
            return at;
        }
    }

    /** Questions of which each may be put to either of two makers. */
    private static final class Questions {
        /** Of each maker those who may answer its questions instead, as bits: itself, if nobody else may. */
        private final int[] others = new int[MAKERS];

        void clear() {
            Arrays.fill(others, 0);
        }

        void add(int one, int other) {
            others[one] |= 1 << other;
        }

        boolean areSettledBy(int asked) {
            for (int m = 0; m < MAKERS; m++) {
                if (!contains(asked, m) && (others[m] & ~asked) != 0) {
                    return false;
                }
            }
            return true;
        }
    }

    private static final class Tape {
        final int[] bytes = new int[MOST_BYTES];
        int size = 0;

        /** Four bytes, the highest first; the caller has seen to the room. */
        void add(int four) {
            for (int shift = 24; shift >= 0 && size < MOST_BYTES; shift -= 8) {
                bytes[size] = four >>> shift & 255;
                size++;
            }
        }
    }

    /**
     * What a text warns of. A test is a range of versions, and so are all tests of a term together:
     * that is why a term is kept as one range.
     */
    private static final class Warning {
        private final int[] low = new int[MOST_TESTS];
        private final int[] high = new int[MOST_TESTS];
        private int terms = 0;
        int part = 0;
        int told = 0;

        void begin(int itsPart) {
            part = itsPart;
            terms = 0;
            openTerm();
        }

        /** A term without tests yet. One behind the last test that may be has no room, and needs none. */
        void openTerm() {
            if (terms < MOST_TESTS) {
                low[terms] = 0;
                high[terms] = LAST_VERSION;
                terms++;
            }
        }

        void narrow(int least, int most) {
            if (terms > 0) {
                low[terms - 1] = Math.max(low[terms - 1], least);
                high[terms - 1] = Math.min(high[terms - 1], most);
            }
        }

        boolean covers(int version) {
            for (int t = 0; t < terms; t++) {
                if (low[t] <= version && version <= high[t]) {
                    return true;
                }
            }
            return false;
        }
    }

    /** Reads the tape token by token; where a read answers false, the token at hand can't go on there. */
    private static final class Reader {
        private static final int END = 0;
        private static final int WORD = 1;
        private static final int NUMBER = 2;
        private static final int SIGN = 3;

        private final Tape tape;
        private int kind = END;
        private int start = 0;
        private int behind = 0;
        private int number = 0;
        private int version = 0;

        Reader(Tape itsTape) {
            tape = itsTape;
        }

        /** Reads the tape into a warning: the place of the fault, or NONE. */
        int read(int parts, Warning into) {
            behind = 0;
            step();
            if (!takeWord("bad") || !takeNumber(parts - 1)) {
                return start;
            }
            into.begin(number);
            for (int tests = 0; tests < MOST_TESTS; tests++) {
                if (!readTest(into)) {
                    return start;
                }
                if (takeWord("or")) {
                    into.openTerm();
                } else if (!takeWord("and")) {
                    return kind == END ? NONE : start;
                }
            }
            return start;
        }

        private boolean readTest(Warning into) {
            if (takeWord("any")) {
                return true;
            }
            boolean below = takeSign('<');
            boolean above = !below && takeSign('>');
            boolean same = takeSign('=');
            if (!below && !above && !same || !readVersion()) {
                return false;
            }
            int least = same ? version : version + 1;
            int most = same ? version : version - 1;
            into.narrow(below ? 0 : least, above ? LAST_VERSION : most);
            return true;
        }

        private boolean readVersion() {
            version = 0;
            for (int i = 0; i < VERSION_SCALE.length; i++) {
                if (i > 0 && !takeSign('.')) {
                    return true;
                }
                if (!takeNumber(LAST_NUMBER)) {
                    return false;
                }
                version += number * VERSION_SCALE[i];
            }
            return true;
        }

        private boolean takeWord(String word) {
            if (kind != WORD || behind - start != word.length()) {
                return false;
            }
            for (int i = 0; i < word.length(); i++) {
                if (tape.bytes[start + i] != word.charAt(i)) {
                    return false;
                }
            }
            step();
            return true;
        }

        private boolean takeSign(char sign) {
            if (kind != SIGN || tape.bytes[start] != sign) {
                return false;
            }
            step();
            return true;
        }

        /** Takes a number that is at most so high; it stays in the field number. */
        private boolean takeNumber(int most) {
            if (kind != NUMBER) {
                return false;
            }
            number = valueAtHand();
            if (number > most) {
                return false;
            }
            step();
            return true;
        }

        /** The digits' value. A row of them may be long, so it stays just above all that can be. */
        private int valueAtHand() {
            int value = 0;
            for (int i = start; i < behind; i++) {
                value = Math.min(value * 10 + tape.bytes[i] - '0', LAST_NUMBER + 1);
            }
            return value;
        }

        private void step() {
            start = behind;
            while (start < tape.size && tape.bytes[start] == ' ') {
                start++;
            }
            kind = kindAt(start);
            behind = kind == END ? start : start + 1;
            if (kind == WORD || kind == NUMBER) {
                while (behind < tape.size && kindAt(behind) == kind) {
                    behind++;
                }
            }
        }

        private int kindAt(int place) {
            if (place >= tape.size) {
                return END;
            }
            int b = tape.bytes[place];
            if (b >= 'a' && b <= 'z') {
                return WORD;
            }
            return b >= '0' && b <= '9' ? NUMBER : SIGN;
        }
    }
}
