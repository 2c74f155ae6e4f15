import java.util.Arrays;

/**
 * A society told as a text: people with signs in strokes, who get engaged by laws of which signs
 * fit in one ring and of how much one likes another one. ../shared/DOC.md says what each call does.
 */
public final class RingSign {
    /** There is none. */
    public static final int NONE = -1;

    // The codes of refused calls.
    private static final int NO_SUCH = -2;
    private static final int NO_NUMBER = -3;
    private static final int TOO_MANY = -4;
    private static final int NOT_NOW = -5;
    private static final int MISSING = -6;
    private static final int NO_PLACE = -7;
    private static final int WHY_NOT = -10;
    private static final int TEXT_FAULT = -30;
    private static final int NO_LIKING = -99000002;

    // The document's bounds.
    private static final int MOST_PEOPLE = 7;
    private static final int CELLS = 9;
    private static final int SIGNS = 512;
    private static final int SHIFTS = 9;
    private static final int MOST_IN_RING = 4;
    private static final int SETS = 128;
    private static final int MARKS = 10;
    private static final int TENTHS = 10;
    private static final int TAPE = 900;
    private static final int FED = 20;
    private static final int DEEPEST = 6;
    private static final int MOST_KEPT = 1000000;
    private static final int MOST_UNDONE = 10;
    private static final int MOST_TIMES = 40;
    private static final int TRAYS = 4;
    private static final int SORTS = 4;
    private static final int MOST_NUMBERS = 40;
    private static final int MOST_SEEN = 18;
    private static final int IMAGES = 2;
    /** In how many ways seven can be with one other one or with nobody. */
    private static final int MOST_PAIRINGS = 232;
    /** Two signs lie up to two rows and two columns apart, in rows of five: from -12 to 12. */
    private static final int FARTHEST = 12;
    private static final int DISTANCES = 25;
    /** More than any crossings there can be, and than any turns. */
    private static final int ENDLESS = 1000000;
    /** Six of not [ ( within one another leave no more than 18 operands waiting. */
    private static final int MOST_STACKED = 32;

    // Tokens: a number is itself; a law keeps the tokens of its parts as they are.
    private static final int NUMBERS = 1000;
    private static final int END = 1000;
    private static final int BAD = 1001;
    private static final int STRANGE = 1002;
    private static final String TOKEN_SIGNS = ";:+-*()[]=<>";
    private static final int SEMICOLON = 1100;
    private static final int COLON = 1101;
    private static final int PLUS = 1102;
    private static final int MINUS = 1103;
    private static final int TIMES = 1104;
    private static final int OPEN = 1105;
    private static final int CLOSE = 1106;
    private static final int OPEN_TRUTH = 1107;
    private static final int CLOSE_TRUTH = 1108;
    private static final int EQUAL = 1109;
    private static final int LESS = 1110;
    private static final int MORE = 1111;
    private static final String WORDS =
        "society person engaged fits likes shy odds or and not cross ink many who whom mark theirs ";
    private static final int SOCIETY = 1200;
    private static final int PERSON = 1201;
    private static final int ENGAGED = 1202;
    private static final int FITS = 1203;
    private static final int LIKES = 1204;
    private static final int SHY = 1205;
    private static final int ODDS = 1206;
    private static final int OR = 1207;
    private static final int AND = 1208;
    private static final int NOT = 1209;
    private static final int CROSS = 1210;
    private static final int INK = 1211;
    private static final int MANY = 1212;
    private static final int WHO = 1213;
    private static final int WHOM = 1214;
    private static final int MARK = 1215;
    private static final int THEIRS = 1216;
    private static final int NAMES = 7;

    /** A row's number has its first cell highest, a sign's bits have it lowest. */
    private static final int[] ROW_BITS = {0, 4, 2, 6, 1, 5, 3, 7};
    /** Where in a ring, row by row, a shift puts a sign's first cell; at shift 0 its cells lie so, too. */
    private static final int[] PLACES = {0, 1, 2, 5, 6, 7, 10, 11, 12};

    private final byte[] tape = new byte[TAPE];
    private int taped;
    private final Society now;
    private final Reader reader;
    private final Rings rings;
    private final Bonds bonds;
    private final Deeds deeds;
    private final Past past;
    private final Trays trays;
    private final Society imageZero;
    private final Society imageOne;
    private final boolean[] imaged = new boolean[IMAGES];

    /** No people. */
    public RingSign() {
        now = new Society();
        reader = new Reader();
        rings = new Rings(now);
        bonds = new Bonds(now, rings);
        trays = new Trays();
        deeds = new Deeds(now, bonds, trays);
        past = new Past(now);
        imageZero = new Society();
        imageOne = new Society();
    }

    // ---- the society

    public int feed(int a, int b, int c, int d, int e) {
        if (taped + FED > TAPE) {
            return NOT_NOW;
        }
        putBytes(taped, a);
        putBytes(taped + 4, b);
        putBytes(taped + 8, c);
        putBytes(taped + 12, d);
        putBytes(taped + 16, e);
        taped += FED;
        return taped;
    }

    private void putBytes(int at, int four) {
        for (int i = 0; i < 4 && at + i < TAPE; i++) {
            tape[at + i] = (byte) (four >>> 24 - 8 * i);
        }
    }

    public int society(int n) {
        if (n < 0 || n > taped) {
            return NO_NUMBER;
        }
        taped = 0;
        int found = reader.read(tape, n);
        if (found != 0) {
            return TEXT_FAULT - found;
        }
        now.copyFrom(reader.draft);
        past.forget();
        return now.lines;
    }

    public int fault(int what) {
        if (what == 0) {
            return reader.faultKind;
        }
        return what == 1 ? reader.faultPlace : NONE;
    }

    public int person(int p, int what) {
        if (!now.has(p)) {
            return NO_SUCH;
        }
        switch (what) {
            case 0:
                return now.sign[p];
            case 1:
                return Integer.bitCount(now.sign[p]);
            case 2:
                return now.markOf[p];
            case 3:
                return now.shyOf[p];
            case 4:
                return now.oddsOf[p];
            case 5:
                return now.with[p];
            case 6:
                return bonds.matchesOf(p);
            default:
                return NO_SUCH;
        }
    }

    public int crosses(int p, int q) {
        return now.areTwo(p, q) ? rings.fewestOf(p, q) : NO_SUCH;
    }

    public int likes(int p, int q) {
        return now.areTwo(p, q) ? rings.liking(p, q) : NO_LIKING;
    }

    // ---- deeds

    public int engage(int p, int q) {
        past.hold();
        int why = deeds.tryEngage(p, q);
        if (why != 0) {
            return WHY_NOT - why;
        }
        past.keep();
        return deeds.leftAlone;
    }

    public int part(int p) {
        past.hold();
        int other = now.has(p) ? now.with[p] : NONE;
        int why = deeds.tryPart(p);
        if (why != 0) {
            return WHY_NOT - why;
        }
        past.keep();
        return other;
    }

    public int stroke(int p, int c) {
        past.hold();
        int why = deeds.tryStroke(p, c);
        if (why != 0) {
            return WHY_NOT - why;
        }
        past.keep();
        return now.sign[p] >>> c & 1;
    }

    public int mark(int p, int n) {
        past.hold();
        int before = now.has(p) ? now.markOf[p] : NONE;
        int why = deeds.tryMark(p, n);
        if (why != 0) {
            return WHY_NOT - why;
        }
        past.keep();
        return before;
    }

    public int undo(int n) {
        if (n < 1 || n > past.size) {
            return NO_NUMBER;
        }
        past.goBack(n);
        return past.size;
    }

    public int judge(int tray, int what) {
        if (!trays.isOne(tray) || what < 0 || what > 3) {
            return NO_SUCH;
        }
        if (trays.isMissing(tray)) {
            return MISSING;
        }
        past.hold();
        int done = deeds.doTray(tray);
        int engagedThen = now.engagedBits();
        int inkThen = now.inkOfAll();
        past.giveBack();
        switch (what) {
            case 0:
                return deeds.whyStopped == 0 ? NONE : done;
            case 1:
                return deeds.whyStopped;
            case 2:
                return engagedThen;
            default:
                return inkThen;
        }
    }

    public int perform(int tray) {
        if (!trays.isOne(tray)) {
            return NO_SUCH;
        }
        if (trays.isMissing(tray)) {
            return MISSING;
        }
        past.hold();
        return keepIfAny(deeds.doTray(tray));
    }

    public int year(int seed, int times) {
        if (times < 1 || times > MOST_TIMES) {
            return NO_NUMBER;
        }
        past.hold();
        return keepIfAny(deeds.doYear(seed, times));
    }

    private int keepIfAny(int done) {
        if (done > 0) {
            past.keep();
        }
        return done;
    }

    // ---- what holds

    public int holds() {
        bonds.learnMatches();
        return bonds.holdsAmong(now.with, now.everybody()) ? 1 : 0;
    }

    public int breaks() {
        bonds.learnMatches();
        int twos = 0;
        for (int p = 0; p < now.people; p++) {
            for (int q = p + 1; q < now.people; q++) {
                if (bonds.breakIt(now.with, p, q)) {
                    twos++;
                }
            }
        }
        return twos;
    }

    public int breaking() {
        bonds.learnMatches();
        for (int p = 0; p < now.people; p++) {
            for (int q = p + 1; q < now.people; q++) {
                if (bonds.breakIt(now.with, p, q)) {
                    return 10 * p + q;
                }
            }
        }
        return NONE;
    }

    public int pairings() {
        bonds.learnPairings();
        return bonds.foundSize;
    }

    public int partner(int k, int p) {
        if (!now.has(p)) {
            return NO_SUCH;
        }
        if (k < 0) {
            return NO_NUMBER;
        }
        bonds.learnPairings();
        return bonds.partnerIn(k, p);
    }

    public int can(int p) {
        if (!now.has(p)) {
            return NO_SUCH;
        }
        bonds.learnPairings();
        int bits = 0;
        for (int k = 0; k < bonds.foundSize; k++) {
            int q = bonds.partnerIn(k, p);
            if (q >= 0) {
                bits |= 1 << q;
            }
        }
        return bits;
    }

    public int sure() {
        bonds.learnPairings();
        int bits = now.everybody();
        for (int p = 0; p < now.people; p++) {
            for (int k = 1; k < bonds.foundSize; k++) {
                if (bonds.partnerIn(k, p) != bonds.partnerIn(0, p)) {
                    bits &= ~(1 << p);
                }
            }
        }
        return bits;
    }

    public int most() {
        return bonds.mostTwos();
    }

    public int triangle() {
        bonds.learnMatches();
        for (int a = 0; a < now.people; a++) {
            for (int b = a + 1; b < now.people; b++) {
                for (int c = a + 1; c < now.people; c++) {
                    if (b != c && bonds.isTriangle(a, b, c)) {
                        return 100 * a + 10 * b + c;
                    }
                }
            }
        }
        return NONE;
    }

    // ---- rings

    public int monogram(int set, int what) {
        int p = what - 10;
        boolean isShift = what >= 10 && now.has(p);
        if (what != 0 && !isShift) {
            return NO_SUCH;
        }
        int many = Integer.bitCount(set);
        if (!now.hasAll(set) || many < 1 || many > MOST_IN_RING) {
            return NO_NUMBER;
        }
        return isShift ? rings.shiftOf(set, p) : rings.crossingsOf(set);
    }

    public int fits(int set) {
        if (!now.hasAll(set) || set == 0) {
            return NO_NUMBER;
        }
        return rings.isFitting(set) ? 1 : 0;
    }

    public int largest() {
        for (int many = MOST_IN_RING; many >= 1; many--) {
            for (int set = 1; set <= now.everybody(); set++) {
                if (Integer.bitCount(set) == many && rings.isFitting(set)) {
                    return set;
                }
            }
        }
        return 0;
    }

    public int misfits() {
        for (int many = 3; many <= MOST_IN_RING; many++) {
            for (int set = 1; set <= now.everybody(); set++) {
                if (Integer.bitCount(set) == many && rings.allTwosFit(set) && !rings.isFitting(set)) {
                    return set;
                }
            }
        }
        return 0;
    }

    public int change(int p, int q, int what) {
        if (!now.areTwo(p, q) || what < 0 || what > 1) {
            return NO_SUCH;
        }
        int after = rings.nearestFitting(now.sign[p], now.sign[q]);
        if (after < 0) {
            return NONE;
        }
        return what == 1 ? after : Integer.bitCount(after ^ now.sign[p]);
    }

    // ---- blots

    public int blot(int tray) {
        return trays.isOne(tray) ? blotted(tray) : NO_SUCH;
    }

    /** Those whose signs are as seen, as bits, or why there can be no answer. */
    private int blotted(int tray) {
        if (trays.isMissing(tray)) {
            return MISSING;
        }
        int many = trays.sizeOf(tray);
        if (many < 1 || many > MOST_SEEN) {
            return TOO_MANY;
        }
        int ink = 0;
        int bare = 0;
        for (int i = 0; i < many; i++) {
            long seen = trays.numberAt(tray, i);
            if (seen < 0 || seen >= 2 * CELLS) {
                return NO_NUMBER;
            }
            int cell = 1 << (int) (seen >> 1);
            if ((seen & 1) == 1) {
                ink |= cell;
            } else {
                bare |= cell;
            }
        }
        return now.withSignsSo(ink, bare);
    }

    public int likely(int tray, int p, int what) {
        if (!trays.isOne(tray) || !now.has(p) || what < 0 || what > 1) {
            return NO_SUCH;
        }
        int set = blotted(tray);
        if (set < 0) {
            return set;
        }
        int all = now.oddsOfSet(set);
        if (all == 0) {
            return NONE;
        }
        int own = (set >>> p & 1) == 1 ? now.oddsOf[p] : 0;
        return lowestTerm(own, all, what);
    }

    public int look(int tray) {
        if (!trays.isOne(tray)) {
            return NO_SUCH;
        }
        int set = blotted(tray);
        if (set < 0) {
            return set;
        }
        if (set == 0) {
            return NONE;
        }
        int all = now.oddsOfSet(set);
        int bestCell = NONE;
        int most = -1;
        for (int c = 0; c < CELLS; c++) {
            int inked = now.oddsOfSet(set & now.withSignsSo(1 << c, 0));
            int lesser = Math.min(inked, all - inked);
            if (lesser > most) {
                most = lesser;
                bestCell = c;
            }
        }
        return bestCell;
    }

    // ---- marks

    public int marks(int tray, int p) {
        return trays.isOne(tray) && now.has(p) ? marksBy(tray, p) : NO_SUCH;
    }

    /** The marks by which the answers hold, as bits, or why there can be no answer. */
    private int marksBy(int tray, int p) {
        if (trays.isMissing(tray)) {
            return MISSING;
        }
        if (trays.sizeOf(tray) != now.people) {
            return TOO_MANY;
        }
        if (!readAnswers(tray)) {
            return NO_NUMBER;
        }
        int before = now.markOf[p];
        int bits = 0;
        for (int n = 0; n < MARKS; n++) {
            now.setMark(p, n);
            bonds.learnMatches();
            if (bonds.holdsAmong(bonds.told, now.everybody())) {
                bits |= 1 << n;
            }
        }
        now.setMark(p, before);
        return bits;
    }

    /** Whether the tray tells a pairing; it is in bonds.told then. */
    private boolean readAnswers(int tray) {
        for (int p = 0; p < now.people; p++) {
            long other = trays.numberAt(tray, p);
            if (other < NONE || other >= now.people || other == p) {
                return false;
            }
            bonds.told[p] = (int) other;
        }
        for (int p = 0; p < now.people; p++) {
            int other = bonds.told[p];
            if (other >= 0 && bonds.told[other] != p) {
                return false;
            }
        }
        return true;
    }

    public int ask(int tray, int p) {
        if (!trays.isOne(tray) || !now.has(p)) {
            return NO_SUCH;
        }
        int bits = marksBy(tray, p);
        if (bits < 0) {
            return bits;
        }
        int all = Integer.bitCount(bits);
        int bestOther = NONE;
        int most = -1;
        for (int q = 0; q < now.people && all > 0; q++) {
            if (q == p) {
                continue;
            }
            int would = marksByWhichWould(bits, p, q);
            int lesser = Math.min(would, all - would);
            if (lesser > most) {
                most = lesser;
                bestOther = q;
            }
        }
        return bestOther;
    }

    /** Of these marks of p, by how many p would get engaged to q. */
    private int marksByWhichWould(int bits, int p, int q) {
        int before = now.markOf[p];
        int would = 0;
        for (int n = 0; n < MARKS; n++) {
            if ((bits >>> n & 1) == 1) {
                now.setMark(p, n);
                if (rings.liking(p, q) > 0) {
                    would++;
                }
            }
        }
        now.setMark(p, before);
        return would;
    }

    // ---- by turns

    public int wins(int set) {
        if (!now.hasAll(set)) {
            return NO_NUMBER;
        }
        rings.learnTurns(set);
        return rings.turns[set] & 1;
    }

    public int best(int set) {
        if (!now.hasAll(set)) {
            return NO_NUMBER;
        }
        rings.learnTurns(set);
        for (int p = 0; p < now.people; p++) {
            int next = set | 1 << p;
            if (next != set && rings.isFitting(next) && (rings.turns[next] & 1) == 0) {
                return p;
            }
        }
        return NONE;
    }

    public int lasts(int set) {
        if (!now.hasAll(set)) {
            return NO_NUMBER;
        }
        rings.learnTurns(set);
        return rings.turns[set];
    }

    // ---- chances

    public int chance(int p, int what) {
        if (!now.has(p) || what < 0 || what > 1) {
            return NO_SUCH;
        }
        bonds.learnChances();
        int above = 0;
        int below = 1;
        for (int q = 0; q < now.people; q++) {
            above += bonds.together[p * MOST_PEOPLE + q];
            below *= TENTHS;
        }
        return lowestTerm(above, below, what);
    }

    public int likeliest(int p) {
        if (!now.has(p)) {
            return NO_SUCH;
        }
        bonds.learnChances();
        int bestOther = NONE;
        int most = 0;
        for (int q = 0; q < now.people; q++) {
            int weight = bonds.together[p * MOST_PEOPLE + q];
            if (weight > most) {
                most = weight;
                bestOther = q;
            }
        }
        return bestOther;
    }

    /** Of a fraction in lowest terms what 0: the number above, else below. */
    private static int lowestTerm(int above, int below, int what) {
        int a = above;
        int b = below;
        // Euclid's numbers at least halve in two rounds, so 64 are plenty for an int.
        for (int i = 0; i < 64 && b != 0; i++) {
            int rest = a % b;
            a = b;
            b = rest;
        }
        if (a == 0) {
            return NONE;
        }
        return what == 0 ? above / a : below / a;
    }

    // ---- trays, images

    public int numbers(int tray, int sort, int n) {
        if (!trays.isOne(tray) || sort < 0 || sort >= SORTS) {
            return NO_SUCH;
        }
        if (n < 0 || n > MOST_NUMBERS) {
            return NO_NUMBER;
        }
        trays.renew(tray, sort, n);
        return 0;
    }

    public long write(int tray, int i, long v) {
        if (!trays.isOne(tray)) {
            return NO_SUCH;
        }
        if (trays.isMissing(tray)) {
            return MISSING;
        }
        if (i < 0 || i >= trays.sizeOf(tray)) {
            return NO_PLACE;
        }
        return trays.put(tray, i, v);
    }

    public int lists(int tray, int k) {
        if (!trays.isOne(tray)) {
            return NO_SUCH;
        }
        if (trays.isMissing(tray)) {
            return MISSING;
        }
        if (k < 0) {
            return NO_NUMBER;
        }
        bonds.learnPairings();
        if (k >= bonds.foundSize) {
            return NOT_NOW;
        }
        int many = Math.min(now.people, trays.sizeOf(tray));
        for (int p = 0; p < many; p++) {
            trays.put(tray, p, bonds.partnerIn(k, p));
        }
        return many;
    }

    public int image(int i) {
        if (i < 0 || i >= IMAGES) {
            return NO_SUCH;
        }
        (i == 0 ? imageZero : imageOne).copyFrom(now);
        imaged[i] = true;
        return 0;
    }

    public int restore(int i) {
        if (i < 0 || i >= IMAGES) {
            return NO_SUCH;
        }
        if (!imaged[i]) {
            return NOT_NOW;
        }
        now.copyFrom(i == 0 ? imageZero : imageOne);
        past.forget();
        return 0;
    }

    public int count(int what) {
        switch (what) {
            case 0:
                return now.people;
            case 1:
                return now.engagedBits();
            case 2:
                return Integer.bitCount(now.engagedBits()) / 2;
            case 3:
                return now.inkOfAll();
            case 4:
                return now.oddsOfSet(now.everybody());
            case 5:
                return past.size;
            case 6:
                return taped;
            case 7:
                return now.lines;
            default:
                return NONE;
        }
    }

    /** The people, who is with whom, and the laws. */
    private static final class Society {
        int people;
        int lines;
        final int[] sign = new int[MOST_PEOPLE];
        final int[] markOf = new int[MOST_PEOPLE];
        final int[] shyOf = new int[MOST_PEOPLE];
        final int[] oddsOf = new int[MOST_PEOPLE];
        final int[] with = new int[MOST_PEOPLE];
        /** All laws told, one behind the other, operands ahead of what is done with them. */
        final int[] code = new int[TAPE];
        int codeSize;
        int fitsFrom;
        int fitsTo;
        int likesFrom;
        int likesTo;
        /**
         * They grow when a sign or a mark changes, or a law: what was reckoned of some people is
         * still true as long as the sum of their ages is the same.
         */
        final int[] signAge = new int[MOST_PEOPLE];
        final int[] markAge = new int[MOST_PEOPLE];

        Society() {
            Arrays.fill(with, NONE);
            Arrays.fill(signAge, 1);
        }

        boolean has(int p) {
            return p >= 0 && p < people && p < MOST_PEOPLE;
        }

        boolean areTwo(int p, int q) {
            return has(p) && has(q) && p != q;
        }

        int everybody() {
            return (1 << people) - 1;
        }

        boolean hasAll(int set) {
            return (set & ~everybody()) == 0;
        }

        void empty() {
            people = 0;
            lines = 0;
            codeSize = 0;
            fitsFrom = 0;
            fitsTo = 0;
            likesFrom = 0;
            likesTo = 0;
            Arrays.fill(sign, 0);
            Arrays.fill(with, NONE);
        }

        void copyFrom(Society other) {
            people = other.people;
            lines = other.lines;
            copyPeople(other.sign, sign);
            copyPeople(other.markOf, markOf);
            copyPeople(other.shyOf, shyOf);
            copyPeople(other.oddsOf, oddsOf);
            copyPeople(other.with, with);
            System.arraycopy(other.code, 0, code, 0, TAPE);
            codeSize = other.codeSize;
            fitsFrom = other.fitsFrom;
            fitsTo = other.fitsTo;
            likesFrom = other.likesFrom;
            likesTo = other.likesTo;
            for (int p = 0; p < MOST_PEOPLE; p++) {
                signAge[p]++;
            }
        }

        static void copyPeople(int[] from, int[] to) {
            System.arraycopy(from, 0, to, 0, MOST_PEOPLE);
        }

        void setSign(int p, int bits) {
            if (sign[p] != bits) {
                sign[p] = bits;
                signAge[p]++;
            }
        }

        void setMark(int p, int n) {
            if (markOf[p] != n) {
                markOf[p] = n;
                markAge[p]++;
            }
        }

        int ageOf(int p) {
            return signAge[p] + markAge[p];
        }

        int signAgeOf(int set) {
            int sum = 0;
            for (int p = 0; p < MOST_PEOPLE; p++) {
                if ((set >>> p & 1) == 1) {
                    sum += signAge[p];
                }
            }
            return sum;
        }

        int engagedBits() {
            int bits = 0;
            for (int p = 0; p < people; p++) {
                if (with[p] >= 0) {
                    bits |= 1 << p;
                }
            }
            return bits;
        }

        int inkOfAll() {
            return inkOf(everybody());
        }

        int inkOf(int set) {
            int ink = 0;
            for (int p = 0; p < people; p++) {
                if ((set >>> p & 1) == 1) {
                    ink += Integer.bitCount(sign[p]);
                }
            }
            return ink;
        }

        int oddsOfSet(int set) {
            int sum = 0;
            for (int p = 0; p < people; p++) {
                if ((set >>> p & 1) == 1) {
                    sum += oddsOf[p];
                }
            }
            return sum;
        }

        /** Those whose signs have all this ink, and none in the bare cells. */
        int withSignsSo(int ink, int bare) {
            int bits = 0;
            for (int p = 0; p < people; p++) {
                if ((sign[p] & ink) == ink && (sign[p] & bare) == 0) {
                    bits |= 1 << p;
                }
            }
            return bits;
        }
    }

    /** Reads a text into a draft, so that all stays as it was with a fault. */
    private static final class Reader {
        final Society draft = new Society();
        int faultKind;
        int faultPlace = NONE;
        private final int[] token = new int[TAPE + 1];
        private final int[] place = new int[TAPE + 1];
        private int at;
        private boolean inLikes;

        /** The fault's kind, or 0. */
        int read(byte[] text, int length) {
            faultKind = 0;
            faultPlace = NONE;
            draft.empty();
            splitText(text, length);
            at = 0;
            if (take(SOCIETY) && take(SEMICOLON)) {
                draft.lines = 1;
                for (int i = 0; i < TAPE && faultKind == 0 && token[at] != END; i++) {
                    if (readLine() && take(SEMICOLON)) {
                        draft.lines++;
                    }
                }
            }
            return faultKind;
        }

        private void splitText(byte[] text, int length) {
            int size = 0;
            int end;
            for (int i = 0; i < length; i = Math.max(end, i + 1)) {
                int c = text[i] & 255;
                end = i + 1;
                if (c != 10 && c != 32 && size < TAPE) {
                    end = tokenEnd(text, i, length);
                    token[size] = tokenOf(text, i, end);
                    place[size] = i;
                    size++;
                }
            }
            token[size] = END;
            place[size] = length;
        }

        private static int tokenEnd(byte[] text, int from, int length) {
            int end = from + 1;
            boolean letters = isLetter(text[from]);
            if (letters || isDigit(text[from])) {
                while (end < length && (letters ? isLetter(text[end]) : isDigit(text[end]))) {
                    end++;
                }
            }
            return end;
        }

        private static boolean isLetter(byte c) {
            return c >= 'a' && c <= 'z';
        }

        private static boolean isDigit(byte c) {
            return c >= '0' && c <= '9';
        }

        private static int tokenOf(byte[] text, int from, int end) {
            if (isLetter(text[from])) {
                return wordOf(text, from, end);
            }
            if (isDigit(text[from])) {
                int number = 0;
                for (int i = from; i < end && end - from <= 3; i++) {
                    number = 10 * number + text[i] - '0';
                }
                return end - from <= 3 ? number : BAD;
            }
            int which = TOKEN_SIGNS.indexOf((char) (text[from] & 255));
            return which >= 0 ? SEMICOLON + which : BAD;
        }

        private static int wordOf(byte[] text, int from, int end) {
            int word = 0;
            int alike = 0;
            for (int i = 0; i < WORDS.length(); i++) {
                char c = WORDS.charAt(i);
                if (c == ' ') {
                    if (alike == end - from) {
                        return SOCIETY + word;
                    }
                    word++;
                    alike = 0;
                } else if (alike >= 0 && from + alike < end && text[from + alike] == c) {
                    alike++;
                } else {
                    alike = NONE;
                }
            }
            return STRANGE;
        }

        /** Of one token the least kind counts: where none begins, nothing can stand. */
        private boolean refuse(int kind) {
            faultKind = token[at] == BAD ? 1 : kind;
            faultPlace = place[at];
            return false;
        }

        /** The end is never stepped over, so that there is always a token to look at. */
        private void step() {
            if (token[at] != END && at < TAPE) {
                at++;
            }
        }

        private boolean take(int kind) {
            if (token[at] != kind) {
                return refuse(2);
            }
            step();
            return true;
        }

        /** A number from 0 to a greatest one, or NONE and a fault. */
        private int takeNumber(int most) {
            int number = token[at];
            if (number >= NUMBERS || number > most) {
                refuse(number >= NUMBERS ? 2 : 3);
                return NONE;
            }
            step();
            return number;
        }

        private boolean readLine() {
            int kind = token[at];
            if (kind == PERSON && draft.people >= MOST_PEOPLE) {
                return refuse(4);
            }
            if (kind != PERSON && kind != ENGAGED && kind != FITS && kind != LIKES) {
                return refuse(2);
            }
            step();
            if (kind == PERSON) {
                return readPerson(draft.people);
            }
            if (kind == ENGAGED) {
                return readEngaged();
            }
            inLikes = kind == LIKES;
            int from = draft.codeSize;
            if (!take(COLON) || !(inLikes ? readSum(0) : readTruth(0))) {
                return false;
            }
            keepLaw(from);
            return true;
        }

        private boolean readPerson(int p) {
            int bits = 0;
            for (int row = 0; row < 3; row++) {
                int number = takeNumber(7);
                if (number < 0 || number > 7) {
                    return false;
                }
                bits |= ROW_BITS[number] << 3 * row;
            }
            if (p >= MOST_PEOPLE) {
                return false;
            }
            draft.sign[p] = bits;
            draft.markOf[p] = 0;
            draft.shyOf[p] = 0;
            draft.oddsOf[p] = 1;
            draft.people = p + 1;
            return readFlags(p);
        }

        private boolean readFlags(int p) {
            for (int i = 0; i < TAPE; i++) {
                int flag = token[at];
                if (flag != MARK && flag != SHY && flag != ODDS) {
                    return true;
                }
                step();
                int number = takeNumber(flag == SHY ? TENTHS : 9);
                if (number < 0) {
                    return false;
                }
                int[] row = flag == MARK ? draft.markOf : flag == SHY ? draft.shyOf : draft.oddsOf;
                row[p] = number;
            }
            return refuse(2);
        }

        private boolean readEngaged() {
            int p = takePerson(NONE);
            int q = p < 0 ? NONE : takePerson(p);
            if (q < 0) {
                return false;
            }
            draft.with[p] = q;
            draft.with[q] = p;
            return true;
        }

        /** One who is told, isn't the other one and isn't engaged, or NONE and a fault. */
        private int takePerson(int other) {
            int p = token[at];
            if (p >= NUMBERS) {
                refuse(2);
                return NONE;
            }
            if (!draft.has(p) || p == other || draft.with[p] >= 0) {
                refuse(3);
                return NONE;
            }
            step();
            return p;
        }

        /** The law just read is the one in force from here on: later ones strike. */
        private void keepLaw(int from) {
            if (inLikes) {
                draft.likesFrom = from;
                draft.likesTo = draft.codeSize;
            } else {
                draft.fitsFrom = from;
                draft.fitsTo = draft.codeSize;
            }
        }

        private void emit(int part) {
            if (draft.codeSize < TAPE) {
                draft.code[draft.codeSize] = part;
                draft.codeSize++;
            }
        }

        private boolean readTruth(int depth) {
            boolean or = false;
            boolean and = false;
            for (int i = 0; i < TAPE; i++) {
                if (!readUnit(depth)) {
                    return false;
                }
                if (and) {
                    emit(AND);
                }
                and = token[at] == AND;
                if (!and) {
                    if (or) {
                        emit(OR);
                    }
                    or = token[at] == OR;
                    if (!or) {
                        return true;
                    }
                }
                step();
            }
            return refuse(2);
        }

        private boolean readUnit(int depth) {
            int first = token[at];
            if (first == NOT || first == OPEN_TRUTH) {
                if (depth >= DEEPEST) {
                    return refuse(4);
                }
                step();
                if (first == OPEN_TRUTH) {
                    return readTruth(depth + 1) && take(CLOSE_TRUTH);
                }
                if (!readUnit(depth + 1)) {
                    return false;
                }
                emit(NOT);
                return true;
            }
            if (!readSum(depth)) {
                return false;
            }
            int sign = token[at];
            if (sign != EQUAL && sign != LESS && sign != MORE) {
                return refuse(2);
            }
            step();
            if (!readSum(depth)) {
                return false;
            }
            emit(sign);
            return true;
        }

        private boolean readSum(int depth) {
            boolean times = false;
            int sign = END;
            for (int i = 0; i < TAPE; i++) {
                if (!readAtom(depth)) {
                    return false;
                }
                if (times) {
                    emit(TIMES);
                }
                times = token[at] == TIMES;
                if (!times) {
                    if (sign != END) {
                        emit(sign);
                    }
                    sign = token[at];
                    if (sign != PLUS && sign != MINUS) {
                        return true;
                    }
                }
                step();
            }
            return refuse(2);
        }

        private boolean readAtom(int depth) {
            int first = token[at];
            if (first == OPEN) {
                if (depth >= DEEPEST) {
                    return refuse(4);
                }
                step();
                if (!readSum(depth + 1)) {
                    return false;
                }
                if (token[at] != CLOSE) {
                    return refuse(2);
                }
                step();
                return true;
            }
            if (first >= NUMBERS && !isName(first)) {
                return refuse(2);
            }
            emit(first);
            step();
            return true;
        }

        private boolean isName(int word) {
            if (word == CROSS || word == INK) {
                return true;
            }
            return inLikes ? word >= WHO && word <= THEIRS : word == MANY;
        }
    }

    /** What holds of signs in one ring. */
    private static final class Rings {
        private final Society soc;
        /** Of each two, the lesser number first: how often they cross, by how far apart they lie. */
        private final int[] apart = new int[MOST_PEOPLE * MOST_PEOPLE * DISTANCES];
        private final int[] fewest = new int[MOST_PEOPLE * MOST_PEOPLE];
        private final int[] fewestAge = new int[MOST_PEOPLE * MOST_PEOPLE];
        private final int[] tried = new int[DISTANCES];
        private final int[] crossings = new int[SETS];
        private final int[] crossingsAge = new int[SETS];
        /** Of each set the shifts in its monogram, four places a set. */
        private final int[] bestShift = new int[SETS * MOST_IN_RING];
        private final boolean[] fitting = new boolean[SETS];
        private final int[] fittingAge = new int[SETS];
        /** How many are added yet to each set, once learnTurns() was told a set within it. */
        final int[] turns = new int[SETS];
        private final int[] likings = new int[MOST_PEOPLE * MOST_PEOPLE];
        private final int[] likingsAge = new int[MOST_PEOPLE * MOST_PEOPLE];
        private final int[] member = new int[MOST_IN_RING];
        private int members;
        private final int[] shift = new int[MOST_IN_RING];
        /** By how many members are laid: how often each one crosses with these, at each shift. */
        private final int[] crossed = new int[MOST_IN_RING * MOST_IN_RING * SHIFTS];
        private final int[] stack = new int[MOST_STACKED];
        /** What the names in a law stand for, from CROSS on. */
        private final int[] named = new int[NAMES];

        Rings(Society society) {
            soc = society;
        }

        /** The fewest crossings of two. */
        int fewestOf(int p, int q) {
            int one = Math.min(p, q);
            int other = Math.max(p, q);
            int two = one * MOST_PEOPLE + other;
            int age = soc.signAge[one] + soc.signAge[other];
            if (fewestAge[two] != age) {
                fewestAge[two] = age;
                fewest[two] = learnApart(apart, two * DISTANCES, soc.sign[one], soc.sign[other]);
            }
            return fewest[two];
        }

        /** Two cells meet where the signs are as far apart as the cells are, the other way round. */
        private static int learnApart(int[] row, int from, int sign, int other) {
            for (int i = 0; i < DISTANCES; i++) {
                row[from + i] = 0;
            }
            for (int c = 0; c < CELLS; c++) {
                for (int d = 0; d < CELLS && (sign >>> c & 1) == 1; d++) {
                    row[from + FARTHEST + PLACES[c] - PLACES[d]] += other >>> d & 1;
                }
            }
            int least = CELLS;
            for (int i = 0; i < DISTANCES; i++) {
                least = row[from + i] < least ? row[from + i] : least;
            }
            return least;
        }

        /** Of a set of 1 to 4 people. */
        int crossingsOf(int set) {
            int age = soc.signAgeOf(set);
            if (crossingsAge[set] != age) {
                crossingsAge[set] = age;
                crossings[set] = ENDLESS;
                takeMembers(set);
                lay(set, 0, 0);
            }
            return crossings[set];
        }

        private void takeMembers(int set) {
            members = 0;
            for (int p = 0; p < MOST_PEOPLE && members < MOST_IN_RING; p++) {
                if ((set >>> p & 1) == 1) {
                    for (int i = 0; i < members; i++) {
                        fewestOf(member[i], p);
                    }
                    member[members] = p;
                    members++;
                }
            }
        }

        /**
         * Shifts are tried from the first on, and none by which there would be no fewer crossings
         * than were found already: so the first of like monograms is kept.
         */
        private void lay(int set, int i, int sum) {
            for (int s = 0; s < SHIFTS && i < MOST_IN_RING; s++) {
                int soFar = sum + crossed[(i * MOST_IN_RING + i) * SHIFTS + s];
                if (soFar < crossings[set]) {
                    shift[i] = s;
                    if (i + 1 >= members) {
                        crossings[set] = soFar;
                        System.arraycopy(shift, 0, bestShift, set * MOST_IN_RING, members);
                    } else if (leastBehind(i, s, crossings[set] - soFar) < crossings[set] - soFar) {
                        lay(set, i + 1, soFar);
                    }
                }
            }
        }

        /** How many crossings come at least of those behind member i, if it lies at shift s. */
        private int leastBehind(int i, int s, int enough) {
            int sum = 0;
            for (int k = i + 1; k < members && sum < enough; k++) {
                int before = (i * MOST_IN_RING + k) * SHIFTS;
                int behind = before + MOST_IN_RING * SHIFTS;
                int from = (member[i] * MOST_PEOPLE + member[k]) * DISTANCES + FARTHEST - PLACES[s];
                int least = ENDLESS;
                for (int t = 0; t < SHIFTS; t++) {
                    int all = crossed[before + t] + apart[from + PLACES[t]];
                    crossed[behind + t] = all;
                    least = all < least ? all : least;
                }
                sum += least;
                for (int m = k + 1; m < members; m++) {
                    sum += fewest[member[k] * MOST_PEOPLE + member[m]];
                }
            }
            return sum;
        }

        /** NONE for one who isn't in the set. */
        int shiftOf(int set, int p) {
            if ((set >>> p & 1) == 0) {
                return NONE;
            }
            crossingsOf(set);
            return bestShift[set * MOST_IN_RING + Integer.bitCount(set & (1 << p) - 1)];
        }

        boolean isFitting(int set) {
            int many = Integer.bitCount(set);
            if (many > MOST_IN_RING) {
                return false;
            }
            int age = soc.signAgeOf(set);
            if (fittingAge[set] != age) {
                fittingAge[set] = age;
                fitting[set] = lawFits(crossingsOf(set), soc.inkOf(set), many);
            }
            return fitting[set];
        }

        boolean twoFit(int p, int q) {
            int set = 1 << p | 1 << q;
            int age = soc.signAgeOf(set);
            if (fittingAge[set] != age) {
                fittingAge[set] = age;
                fitting[set] = lawFits(fewestOf(p, q), soc.inkOf(set), 2);
            }
            return fitting[set];
        }

        boolean allTwosFit(int set) {
            for (int p = 0; p < soc.people; p++) {
                for (int q = p + 1; q < soc.people; q++) {
                    if ((set >>> p & 1) == 1 && (set >>> q & 1) == 1 && !twoFit(p, q)) {
                        return false;
                    }
                }
            }
            return true;
        }

        private boolean lawFits(int cross, int ink, int many) {
            if (soc.fitsFrom == soc.fitsTo) {
                return cross < 2;
            }
            named[0] = cross;
            named[INK - CROSS] = ink;
            named[MANY - CROSS] = many;
            return reckon(soc.fitsFrom, soc.fitsTo) != 0;
        }

        int liking(int p, int q) {
            int at = p * MOST_PEOPLE + q;
            int age = soc.ageOf(p) + soc.ageOf(q);
            if (likingsAge[at] != age) {
                likingsAge[at] = age;
                named[0] = fewestOf(p, q);
                named[INK - CROSS] = Integer.bitCount(soc.sign[q]);
                named[WHO - CROSS] = p;
                named[WHOM - CROSS] = q;
                named[MARK - CROSS] = soc.markOf[p];
                named[THEIRS - CROSS] = soc.markOf[q];
                likings[at] = soc.likesFrom == soc.likesTo ? 1 : reckon(soc.likesFrom, soc.likesTo);
            }
            return likings[at];
        }

        private int reckon(int from, int to) {
            int top = 0;
            for (int i = from; i < to && i < TAPE; i++) {
                int part = soc.code[i];
                if (part < NUMBERS || part >= CROSS && part <= THEIRS) {
                    if (top < MOST_STACKED) {
                        stack[top] = part < NUMBERS ? part : named[part - CROSS];
                        top++;
                    }
                } else if (part == NOT && top >= 1) {
                    stack[top - 1] = 1 - stack[top - 1];
                } else if (top >= 2) {
                    top--;
                    long a = stack[top - 1];
                    long b = stack[top];
                    long v;
                    switch (part) {
                        case PLUS:
                            v = a + b;
                            break;
                        case MINUS:
                            v = a - b;
                            break;
                        case TIMES:
                            v = a * b;
                            break;
                        case AND:
                            v = a & b;
                            break;
                        case OR:
                            v = a | b;
                            break;
                        default:
                            v = (part == EQUAL ? a == b : part == LESS ? a < b : a > b) ? 1 : 0;
                            break;
                    }
                    v = v > MOST_KEPT ? MOST_KEPT : v < -MOST_KEPT ? -MOST_KEPT : v;
                    stack[top - 1] = (int) v;
                }
            }
            return stack[0];
        }

        /** The sign nearest to one by which it fits with another one, of like ones the least. */
        int nearestFitting(int sign, int other) {
            for (int changed = 0; changed <= CELLS; changed++) {
                for (int next = 0; next < SIGNS; next++) {
                    if (Integer.bitCount(next ^ sign) == changed) {
                        int ink = Integer.bitCount(next) + Integer.bitCount(other);
                        if (lawFits(learnApart(tried, 0, next, other), ink, 2)) {
                            return next;
                        }
                    }
                }
            }
            return NONE;
        }

        /** From the fullest sets down, so that those behind each turn are known already. */
        void learnTurns(int set) {
            for (int next = soc.everybody(); next >= set && next >= 0; next--) {
                if ((next & set) == set) {
                    turns[next] = turnsBehind(next);
                }
            }
        }

        /** Who makes the last turn wins, so an even number left is a loss for who is to add. */
        private int turnsBehind(int set) {
            int soonest = ENDLESS;
            int latest = -1;
            for (int p = 0; p < soc.people; p++) {
                int next = set | 1 << p;
                if (next != set && isFitting(next)) {
                    if ((turns[next] & 1) == 0) {
                        soonest = Math.min(soonest, turns[next]);
                    }
                    latest = Math.max(latest, turns[next]);
                }
            }
            return 1 + (soonest < ENDLESS ? soonest : latest);
        }
    }

    /** Who matches whom, and which pairings hold. */
    private static final class Bonds {
        private final Society soc;
        private final Rings rings;
        /** Whom each one matches, as bits, once learnMatches() was called. */
        private final int[] matches = new int[MOST_PEOPLE];
        /** Of each one and another one, whom it likes less, as bits, known with the matches. */
        private final int[] less = new int[MOST_PEOPLE * MOST_PEOPLE];
        private int matchesAge;
        /** A pairing told in a tray. */
        final int[] told = new int[MOST_PEOPLE];
        private final int[] tried = new int[MOST_PEOPLE];
        /** Pairings that hold: with whom each one is, and one more, four bits a person. */
        private final int[] found = new int[MOST_PAIRINGS];
        int foundSize;
        private int foundMost;
        private int foundAge;
        /** How likely each two are with each other, in parts of ten to the number of people. */
        final int[] together = new int[MOST_PEOPLE * MOST_PEOPLE];
        private int togetherAge;
        private final int[] twos = new int[SETS];

        Bonds(Society society, Rings itsRings) {
            soc = society;
            rings = itsRings;
        }

        private int ageOfAll() {
            int sum = 0;
            for (int p = 0; p < MOST_PEOPLE; p++) {
                sum += soc.ageOf(p);
            }
            return sum;
        }

        boolean areMatching(int p, int q) {
            return rings.liking(p, q) > 0 && rings.liking(q, p) > 0 && rings.twoFit(p, q);
        }

        /** Whether p likes q better than another one; better than nobody in any case. */
        boolean likesMore(int p, int q, int r) {
            if (r < 0) {
                return true;
            }
            int one = rings.liking(p, q);
            int other = rings.liking(p, r);
            return one > other || one == other && q < r;
        }

        void learnMatches() {
            int age = ageOfAll();
            if (matchesAge == age) {
                return;
            }
            matchesAge = age;
            for (int p = 0; p < soc.people; p++) {
                matches[p] = 0;
                for (int q = 0; q < soc.people; q++) {
                    if (q != p) {
                        matches[p] |= areMatching(p, q) ? 1 << q : 0;
                        learnLess(p, q);
                    }
                }
            }
        }

        private void learnLess(int p, int q) {
            int bits = 0;
            for (int r = 0; r < soc.people; r++) {
                if (r != p && r != q && likesMore(p, q, r)) {
                    bits |= 1 << r;
                }
            }
            less[p * MOST_PEOPLE + q] = bits;
        }

        int matchesOf(int p) {
            learnMatches();
            return matches[p];
        }

        private boolean areKnownToMatch(int p, int q) {
            return (matches[p] >>> q & 1) == 1;
        }

        /** Whether p would leave whom it is with, or nobody, for q. */
        private boolean leaves(int p, int q, int whomItHas) {
            return whomItHas < 0 || (less[p * MOST_PEOPLE + q] >>> whomItHas & 1) == 1;
        }

        boolean breakIt(int[] with, int p, int q) {
            return areKnownToMatch(p, q) && with[p] != q
                && leaves(p, q, with[p]) && leaves(q, p, with[q]);
        }

        boolean holdsAmong(int[] with, int group) {
            for (int p = 0; p < soc.people; p++) {
                if ((group >>> p & 1) == 0) {
                    continue;
                }
                if (with[p] >= 0 && !areKnownToMatch(p, with[p])) {
                    return false;
                }
                for (int q = p + 1; q < soc.people; q++) {
                    if ((group >>> q & 1) == 1 && breakIt(with, p, q)) {
                        return false;
                    }
                }
            }
            return true;
        }

        void learnPairings() {
            int age = ageOfAll();
            if (foundAge != age) {
                learnMatches();
                findPairings(soc.everybody(), MOST_PAIRINGS);
                foundAge = age;
            }
        }

        private void findPairings(int group, int most) {
            // What was found of everybody is lost; learnPairings() says anew of what it is.
            foundAge = 0;
            foundSize = 0;
            foundMost = most;
            pair(0, group, group);
        }

        /** Nobody first, then by number, PERSON by PERSON: that is the order of pairings. */
        private void pair(int p, int group, int free) {
            if (foundSize >= foundMost || foundSize >= MOST_PAIRINGS) {
                return;
            }
            if (p >= soc.people || p >= MOST_PEOPLE) {
                if (holdsAmong(tried, group)) {
                    found[foundSize] = packed(group);
                    foundSize++;
                }
                return;
            }
            if ((free >>> p & 1) == 0) {
                pair(p + 1, group, free);
                return;
            }
            int rest = free & ~(1 << p);
            tried[p] = NONE;
            pair(p + 1, group, rest);
            for (int q = p + 1; q < soc.people; q++) {
                if ((rest >>> q & 1) == 1 && areKnownToMatch(p, q)) {
                    tried[p] = q;
                    tried[q] = p;
                    pair(p + 1, group, rest & ~(1 << q));
                }
            }
        }

        private int packed(int group) {
            int all = 0;
            for (int p = 0; p < soc.people; p++) {
                if ((group >>> p & 1) == 1) {
                    all |= tried[p] + 1 << 4 * p;
                }
            }
            return all;
        }

        /** NONE: with nobody, or not so many were found. */
        int partnerIn(int k, int p) {
            return k < foundSize && k < MOST_PAIRINGS ? (found[k] >>> 4 * p & 15) - 1 : NONE;
        }

        void learnChances() {
            int age = ageOfAll();
            if (togetherAge == age) {
                return;
            }
            togetherAge = age;
            learnMatches();
            Arrays.fill(together, 0);
            for (int group = 0; group <= soc.everybody(); group++) {
                int weight = weightOf(group);
                if (weight > 0) {
                    findPairings(group, 1);
                    addTogether(weight);
                }
            }
        }

        /** How likely just these don't stay at home. */
        private int weightOf(int group) {
            int weight = 1;
            for (int p = 0; p < soc.people; p++) {
                weight *= (group >>> p & 1) == 1 ? TENTHS - soc.shyOf[p] : soc.shyOf[p];
            }
            return weight;
        }

        private void addTogether(int weight) {
            for (int p = 0; p < soc.people; p++) {
                int q = partnerIn(0, p);
                if (q >= 0 && q < MOST_PEOPLE) {
                    together[p * MOST_PEOPLE + q] += weight;
                }
            }
        }

        int mostTwos() {
            learnMatches();
            for (int set = 0; set <= soc.everybody(); set++) {
                twos[set] = mostTwosOf(set);
            }
            return twos[soc.everybody()];
        }

        /** The last of the set is with nobody, or with one: the rest is a lesser set. */
        private int mostTwosOf(int set) {
            if (set == 0) {
                return 0;
            }
            int last = 0;
            for (int p = 0; p < soc.people; p++) {
                last = (set >>> p & 1) == 1 ? p : last;
            }
            int rest = set & ~(1 << last);
            int most = twos[rest];
            for (int q = 0; q < last; q++) {
                if ((rest >>> q & 1) == 1 && areKnownToMatch(last, q)) {
                    most = Math.max(most, 1 + twos[rest & ~(1 << q)]);
                }
            }
            return most;
        }

        boolean isTriangle(int a, int b, int c) {
            return areKnownToMatch(a, b) && areKnownToMatch(b, c) && areKnownToMatch(c, a)
                && leaves(a, b, c) && leaves(b, c, a) && leaves(c, a, b);
        }
    }

    /** Deeds, each answering why it can't be, or 0 when it is done. */
    private static final class Deeds {
        private final Society soc;
        private final Bonds bonds;
        private final Trays trays;
        /** How many were left by the latest engagement. */
        int leftAlone;
        /** Why the latest deed of a tray that could not be done couldn't, or 0. */
        int whyStopped;
        private int drawn;

        Deeds(Society society, Bonds itsBonds, Trays allTrays) {
            soc = society;
            bonds = itsBonds;
            trays = allTrays;
        }

        int tryEngage(int p, int q) {
            leftAlone = 0;
            if (!soc.areTwo(p, q)) {
                return 1;
            }
            if (soc.with[p] == q) {
                return 2;
            }
            if (!bonds.areMatching(p, q)) {
                return 3;
            }
            if (!bonds.likesMore(p, q, soc.with[p]) || !bonds.likesMore(q, p, soc.with[q])) {
                return 4;
            }
            leftAlone = leave(p) + leave(q);
            soc.with[p] = q;
            soc.with[q] = p;
            return 0;
        }

        /** How many are left alone by it. */
        private int leave(int p) {
            int other = soc.with[p];
            if (!soc.has(other)) {
                return 0;
            }
            soc.with[other] = NONE;
            soc.with[p] = NONE;
            return 1;
        }

        int tryPart(int p) {
            if (!soc.has(p)) {
                return 1;
            }
            return leave(p) == 1 ? 0 : 2;
        }

        int tryStroke(int p, int c) {
            if (!soc.has(p) || c < 0 || c >= CELLS) {
                return 1;
            }
            soc.setSign(p, soc.sign[p] ^ 1 << c);
            return 0;
        }

        int tryMark(int p, int n) {
            if (!soc.has(p) || n < 0 || n >= MARKS) {
                return 1;
            }
            soc.setMark(p, n);
            return 0;
        }

        /** How many are done, till one can't be: whyStopped says why. */
        int doTray(int tray) {
            int many = trays.sizeOf(tray);
            whyStopped = 0;
            for (int i = 0; i < many; i++) {
                long v = trays.numberAt(tray, i);
                // Others than deeds are 499: of a kind that there is not.
                int deed = v < 0 || v > 399 || v > 109 && v < 200 ? 499 : (int) v;
                whyStopped = tryDeed(deed / 100, deed % 100 / 10, deed % 10);
                if (whyStopped != 0) {
                    return i;
                }
            }
            return many;
        }

        /** Of a kind 0 to 3, as in a tray: whose deed it is stands in the tens, but for 1. */
        private int tryDeed(int kind, int tens, int ones) {
            switch (kind) {
                case 0:
                    return tryEngage(tens, ones);
                case 1:
                    return tryPart(ones);
                case 2:
                    return tryStroke(tens, ones);
                case 3:
                    return tryMark(tens, ones);
                default:
                    return 1;
            }
        }

        /** How many could be. */
        int doYear(int seed, int times) {
            drawn = seed;
            int could = 0;
            for (int i = 0; i < times; i++) {
                int kind = Math.max(0, draw(6) - 2);
                int p = draw(MOST_PEOPLE);
                int why;
                if (kind == 1) {
                    why = tryPart(p);
                } else {
                    why = tryDeed(kind, p, draw(kind == 0 ? MOST_PEOPLE : kind == 2 ? CELLS : MARKS));
                }
                could += why == 0 ? 1 : 0;
            }
            return could;
        }

        private int draw(int below) {
            drawn = 1103515245 * drawn + 12345;
            return below > 0 ? (drawn >>> 16) % below : 0;
        }
    }

    /** Who was with whom, signs and marks, ahead of the latest calls that did some. */
    private static final class Past {
        private static final int ROW = 3 * MOST_PEOPLE;
        private final Society soc;
        private final int[] rows = new int[MOST_UNDONE * ROW];
        private final int[] held = new int[ROW];
        int size;

        Past(Society society) {
            soc = society;
        }

        void forget() {
            size = 0;
        }

        /** Ahead of each call that may do some. */
        void hold() {
            for (int p = 0; p < MOST_PEOPLE; p++) {
                held[3 * p] = soc.with[p];
                held[3 * p + 1] = soc.sign[p];
                held[3 * p + 2] = soc.markOf[p];
            }
        }

        /** What is held can be brought back by undoing. */
        void keep() {
            if (size >= MOST_UNDONE) {
                size = MOST_UNDONE - 1;
                System.arraycopy(rows, ROW, rows, 0, size * ROW);
            }
            System.arraycopy(held, 0, rows, size * ROW, ROW);
            size++;
        }

        /** By n calls, of those that can be undone. */
        void goBack(int n) {
            if (n < 1 || n > size) {
                return;
            }
            size -= n;
            System.arraycopy(rows, size * ROW, held, 0, ROW);
            giveBack();
        }

        /** All is as it was when it was held. */
        void giveBack() {
            for (int p = 0; p < MOST_PEOPLE; p++) {
                soc.with[p] = held[3 * p];
                soc.setSign(p, held[3 * p + 1]);
                soc.setMark(p, held[3 * p + 2]);
            }
        }
    }

    /** Rows of numbers; a sort of NONE says that a tray is missing. */
    private static final class Trays {
        private final int[] sorts = {NONE, NONE, NONE, NONE};
        private final int[] sizes = new int[TRAYS];
        private final long[] rows = new long[TRAYS * MOST_NUMBERS];

        boolean isOne(int tray) {
            return tray >= 0 && tray < TRAYS;
        }

        boolean isMissing(int tray) {
            return !isOne(tray) || sorts[tray] < 0;
        }

        int sizeOf(int tray) {
            return isMissing(tray) ? 0 : sizes[tray];
        }

        void renew(int tray, int sort, int n) {
            if (!isOne(tray)) {
                return;
            }
            sorts[tray] = sort;
            sizes[tray] = n;
            for (int i = 0; i < MOST_NUMBERS; i++) {
                rows[tray * MOST_NUMBERS + i] = 0;
            }
        }

        long numberAt(int tray, int i) {
            return i >= 0 && i < sizeOf(tray) ? rows[tray * MOST_NUMBERS + i] : 0;
        }

        /** The number as it is there. */
        long put(int tray, int i, long v) {
            if (i < 0 || i >= sizeOf(tray)) {
                return NO_PLACE;
            }
            long cut = cutTo(sorts[tray], v);
            rows[tray * MOST_NUMBERS + i] = cut;
            return cut;
        }

        private static long cutTo(int sort, long v) {
            switch (sort) {
                case 0:
                    return (byte) v;
                case 1:
                    return (short) v;
                case 2:
                    return (int) v;
                default:
                    return v;
            }
        }
    }
}
