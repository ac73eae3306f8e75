/**
 * Bounds of chances: sayings about the chances of eight worlds, and what they leave open.
 *
 * All questions are answered from the corners of the set of rows that can be: every such row is a
 * mixture of corners, so the least and the greatest of a chance, of a share and of a difference
 * stand at corners. A corner has at most five worlds with a chance (one for each saying and one
 * more), so its numbers stay below 3 * 10^8, and products of two of them fit in a long.
 */
public final class ChanceBounds {
    public static final int BAD = -1, FULL = -3, NONE = -9;
    public static final long NO = -1000000000000000000L;

    private static final int WORLDS = 8;
    private static final int ALL_WORLDS = 255;
    private static final int MOST_SAYINGS = 4;
    private static final int HUNDREDTHS = 100;
    private static final int THOUSANDTHS = 1000;
    private static final int FAULT_BASE = -10;

    private final Text text;
    private final Reader reader;
    private final Saying[] sayings;
    private int many;
    private final Ladder ladder;
    private final ToldRow told;
    private final Fraction answer;
    private final Fraction least;
    private final Fraction greatest;
    private final Fraction leastByAll;
    private final Fraction greatestByAll;

    public ChanceBounds() {
        text = new Text();
        reader = new Reader(text);
        sayings = new Saying[MOST_SAYINGS];
        for (int i = 0; i < MOST_SAYINGS; i++) {
            sayings[i] = new Saying();
        }
        many = 0;
        ladder = new Ladder();
        told = new ToldRow();
        answer = new Fraction();
        least = new Fraction();
        greatest = new Fraction();
        leastByAll = new Fraction();
        greatestByAll = new Fraction();
    }

    // ---- sayings

    public int type(long v, int n) {
        if (n < 1 || n > 8) {
            return BAD;
        }
        if (text.length + n > Text.ROOM) {
            return FULL;
        }
        for (int shift = 8 * (n - 1); shift >= 0; shift -= 8) {
            text.append((int) (v >> shift) & 255);
        }
        return text.length;
    }

    public int clear() {
        int had = text.length;
        text.length = 0;
        return had;
    }

    public int read() {
        reader.start();
        for (int n = 0; n <= MOST_SAYINGS && reader.isMore(); n++) {
            reader.readSaying();
        }
        if (reader.fault >= 0) {
            return FAULT_BASE - reader.fault;
        }
        for (int i = 0; i < MOST_SAYINGS; i++) {
            sayings[i].take(reader.found[i]);
        }
        many = reader.complete;
        text.length = 0;
        return many;
    }

    public int saying(int i, int what) {
        if (!isSaying(i)) {
            return BAD;
        }
        switch (what) {
            case 0:
                return sayings[i].x;
            case 1:
                return sayings[i].y;
            case 2:
                return sayings[i].from;
            case 3:
                return sayings[i].to;
            case 4:
                return sayings[i].isOn;
            default:
                return BAD;
        }
    }

    public int on(int i, int is) {
        if (!isSaying(i) || !isZeroOrOne(is)) {
            return BAD;
        }
        int was = sayings[i].isOn;
        sayings[i].isOn = is;
        return was;
    }

    public int move(int i, int what, int v) {
        if (!isSaying(i) || !isZeroOrOne(what) || v < 0 || v > HUNDREDTHS) {
            return BAD;
        }
        return what == 0 ? moveFrom(sayings[i], v) : moveTo(sayings[i], v);
    }

    private static int moveFrom(Saying saying, int v) {
        if (v > saying.to) {
            return BAD;
        }
        int was = saying.from;
        saying.from = v;
        return was;
    }

    private static int moveTo(Saying saying, int v) {
        if (v < saying.from) {
            return BAD;
        }
        int was = saying.to;
        saying.to = v;
        return was;
    }

    // ---- what can be

    public int could() {
        return rowsByOn().isEmpty() ? 0 : 1;
    }

    public long bound(int thing, int other, int which, int what) {
        if (!isThing(thing) || !isThing(other) || !isZeroOrOne(which) || !isZeroOrOne(what)) {
            return NO;
        }
        rowsByOn().findShare(thing, other, which, answer);
        return answer.inLeastTerms(what);
    }

    public long differ(int thing, int other, int which, int what) {
        if (!isThing(thing) || !isThing(other) || !isZeroOrOne(which) || !isZeroOrOne(what)) {
            return NO;
        }
        rowsByOn().findDifference(thing, other, which, answer);
        return answer.inLeastTerms(what);
    }

    public long first(int world, int what) {
        if (!isWorld(world) || !isZeroOrOne(what)) {
            return NO;
        }
        rowsByOn().findInFirstRow(world, answer);
        return answer.inLeastTerms(what);
    }

    public int never() {
        return rowsByOn().worldsWithoutChance();
    }

    // ---- sayings among one another

    public int quarrel(int what) {
        if (!isZeroOrOne(what)) {
            return BAD;
        }
        int set = fewestThatCannot();
        if (set < 0) {
            return NONE;
        }
        return what == 0 ? Integer.bitCount(set) : set;
    }

    private int fewestThatCannot() {
        int on = onSet();
        int best = -1;
        for (int set = 0; set <= on; set++) {
            if (isFewerOf(on, set, best) && ladder.rowsBy(sayings, set, 0, 0).isEmpty()) {
                best = set;
            }
        }
        return best;
    }

    public int follows(int i) {
        if (!isSaying(i)) {
            return BAD;
        }
        int others = onSet() & ~(1 << i);
        return ladder.rowsBy(sayings, others, 0, 0).allKeep(sayings[i]) ? 1 : 0;
    }

    public int needed(int thing, int other, int what) {
        if (!isThing(thing) || !isThing(other) || !isZeroOrOne(what)) {
            return BAD;
        }
        int set = fewestThatTellAsMuch(thing, other);
        return what == 0 ? Integer.bitCount(set) : set;
    }

    private int fewestThatTellAsMuch(int thing, int condition) {
        int on = onSet();
        Corners byAll = ladder.rowsBy(sayings, on, 0, 0);
        byAll.findShare(thing, condition, 0, leastByAll);
        byAll.findShare(thing, condition, 1, greatestByAll);
        int best = -1;
        for (int set = 0; set < on; set++) {
            if (isFewerOf(on, set, best)) {
                Corners rows = ladder.rowsBy(sayings, set, 0, 0);
                rows.findShare(thing, condition, 0, least);
                rows.findShare(thing, condition, 1, greatest);
                if (least.isSameAs(leastByAll) && greatest.isSameAs(greatestByAll)) {
                    best = set;
                }
            }
        }
        return best < 0 ? on : best;
    }

    /** Sets are met in rising order, so one that is no smaller than the best is never better. */
    private static boolean isFewerOf(int whole, int set, int best) {
        return (set & ~whole) == 0
                && (best < 0 || Integer.bitCount(set) < Integer.bitCount(best));
    }

    public int gives(int i) {
        if (i != -1 && !isSaying(i)) {
            return BAD;
        }
        int on = onSet();
        int giving = i == -1 ? on : on & (1 << i);
        if (i != -1 && giving == 0) {
            return NONE;
        }
        return leastGiving(on, giving);
    }

    private int leastGiving(int set, int giving) {
        if (ladder.rowsBy(sayings, set, giving, HUNDREDTHS).isEmpty()) {
            return NONE;
        }
        int low = 0;
        int high = HUNDREDTHS;
        // What can be by so many hundredths can be by more: halve until one number is left.
        for (int n = 0; n < HUNDREDTHS && low < high; n++) {
            int middle = (low + high) / 2;
            if (ladder.rowsBy(sayings, set, giving, middle).isEmpty()) {
                low = middle + 1;
            } else {
                high = middle;
            }
        }
        return low;
    }

    // ---- told rows

    public int tell(int world, int v) {
        if (!isWorld(world) || v < 0 || v > THOUSANDTHS) {
            return BAD;
        }
        int was = told.thousandths[world];
        told.thousandths[world] = v;
        return was;
    }

    public int check() {
        if (!told.isWhole()) {
            return -1;
        }
        int broken = 0;
        for (int i = 0; i < many; i++) {
            if (sayings[i].isOn == 1 && !told.keeps(sayings[i])) {
                broken++;
            }
        }
        return broken;
    }

    public long pull(int thing, int world, int what) {
        if (!isThing(thing) || !isWorld(world) || !isZeroOrOne(what)) {
            return NO;
        }
        answer.forget();
        if (told.isWhole()) {
            answer.set(told.chance(thing & (1 << world)), told.chance(thing));
        }
        return answer.inLeastTerms(what);
    }

    public int count(int what) {
        switch (what) {
            case 0:
                return many;
            case 1:
                return Integer.bitCount(onSet());
            case 2:
                return text.length;
            case 3:
                return told.chance(ALL_WORLDS);
            default:
                return BAD;
        }
    }

    // ---- what the calls share

    private int onSet() {
        int set = 0;
        for (int i = 0; i < many; i++) {
            if (sayings[i].isOn == 1) {
                set |= 1 << i;
            }
        }
        return set;
    }

    private Corners rowsByOn() {
        return ladder.rowsBy(sayings, onSet(), 0, 0);
    }

    private boolean isSaying(int i) {
        return i >= 0 && i < many;
    }

    private static boolean isThing(int thing) {
        return thing >= 0 && thing <= ALL_WORLDS;
    }

    private static boolean isWorld(int world) {
        return world >= 0 && world < WORLDS;
    }

    private static boolean isZeroOrOne(int number) {
        return number == 0 || number == 1;
    }

    private static boolean has(int set, int member) {
        return (set >> member & 1) == 1;
    }

    private static long commonDivisor(long one, long another) {
        long a = one;
        long b = another;
        for (int n = 0; n < 100 && b != 0; n++) {
            long rest = a % b;
            a = b;
            b = rest;
        }
        return a;
    }

    /** That the chance of X and Y is from FROM to TO hundredths of the chance of Y. */
    private static final class Saying {
        private int x;
        private int y;
        private int from;
        private int to;
        private int isOn;

        void take(Saying source) {
            x = source.x;
            y = source.y;
            from = source.from;
            to = source.to;
            isOn = source.isOn;
        }

        void loosen(int by) {
            from = Math.max(from - by, 0);
            to = Math.min(to + by, HUNDREDTHS);
        }

        boolean saysSameAs(Saying another) {
            return x == another.x && y == another.y && from == another.from && to == another.to;
        }

        /** How far the chance of both is above FROM, in hundredths; below 0: too low. */
        long overFrom(long both, long condition) {
            return HUNDREDTHS * both - from * condition;
        }

        /** How far the chance of both is below TO, in hundredths; below 0: too high. */
        long underTo(long both, long condition) {
            return to * condition - HUNDREDTHS * both;
        }

        boolean isKeptBy(long both, long condition) {
            return overFrom(both, condition) >= 0 && underTo(both, condition) >= 0;
        }
    }

    /** THE TEXT that comes before it is read. */
    private static final class Text {
        private static final int ROOM = 200;

        private final int[] bytes = new int[ROOM];
        private int length;

        void append(int value) {
            if (length < ROOM) {
                bytes[length] = value;
                length++;
            }
        }

        /** -1 behind the end. */
        int at(int place) {
            return place >= 0 && place < length && place < ROOM ? bytes[place] : -1;
        }
    }

    /** The text token by token; a sign's kind is its byte. */
    private static final class Tokens {
        private static final int END = 0, LETTER = 1, IF = 2, NUMBER = 3, WRONG = 4;
        private static final int TOO_MUCH = 1000;
        private static final String SIGNS = "!&|()-;";
        private static final int[] WORLDS_OF_LETTER = {170, 204, 240};

        private final Text text;
        private int place;
        private int start;
        private int kind;
        private int value;

        Tokens(Text text) {
            this.text = text;
        }

        void restart() {
            place = 0;
            step();
        }

        void step() {
            while (place < text.length && text.at(place) == ' ') {
                place++;
            }
            start = place;
            int sign = text.at(place);
            if (sign < 0) {
                kind = END;
            } else if (isLetter(sign)) {
                stepOverWord();
            } else if (isDigit(sign)) {
                stepOverNumber();
            } else {
                kind = SIGNS.indexOf((char) sign) >= 0 ? sign : WRONG;
                place++;
            }
        }

        private void stepOverWord() {
            while (place < text.length && isLetter(text.at(place))) {
                place++;
            }
            int letter = text.at(start) - 'a';
            if (place - start == 1 && letter >= 0 && letter < WORLDS_OF_LETTER.length) {
                kind = LETTER;
                value = WORLDS_OF_LETTER[letter];
            } else if (place - start == 2 && text.at(start) == 'i' && text.at(start + 1) == 'f') {
                kind = IF;
            } else {
                kind = WRONG;
            }
        }

        private void stepOverNumber() {
            value = 0;
            while (place < text.length && isDigit(text.at(place))) {
                value = Math.min(10 * value + text.at(place) - '0', TOO_MUCH);
                place++;
            }
            boolean isPadded = text.at(start) == '0' && place - start > 1;
            kind = isPadded || value == TOO_MUCH ? WRONG : NUMBER;
        }

        private static boolean isLetter(int sign) {
            return sign >= 'a' && sign <= 'z';
        }

        private static boolean isDigit(int sign) {
            return sign >= '0' && sign <= '9';
        }
    }

    /** Makes sayings of the text, apart from those in use, so that a fault changes nothing. */
    private static final class Reader {
        private static final int MOST_LETTERS = 12;
        private static final int MOST_OPEN = 6;

        private final Tokens tokens;
        private final Saying[] found;
        private int complete;
        private int letters;
        /** The place of the first fault, or -1. */
        private int fault;

        Reader(Text text) {
            tokens = new Tokens(text);
            found = new Saying[MOST_SAYINGS];
            for (int i = 0; i < MOST_SAYINGS; i++) {
                found[i] = new Saying();
            }
        }

        void start() {
            complete = 0;
            fault = -1;
            tokens.restart();
        }

        boolean isMore() {
            return fault < 0 && tokens.kind != Tokens.END;
        }

        void readSaying() {
            if (complete >= MOST_SAYINGS) {
                fail();
                return;
            }
            Saying saying = found[complete];
            letters = 0;
            saying.x = readFormula(0);
            saying.y = ALL_WORLDS;
            if (isAt(Tokens.IF)) {
                tokens.step();
                letters = 0;
                saying.y = readFormula(0);
            }
            saying.from = readHundredths(0);
            expect('-');
            saying.to = readHundredths(saying.from);
            expect(';');
            saying.isOn = 1;
            complete++;
        }

        /** The depth is how many ( and ! are open. */
        private int readFormula(int depth) {
            int worlds = readPart(depth);
            for (int n = 0; n < Text.ROOM && isAt('|'); n++) {
                tokens.step();
                worlds |= readPart(depth);
            }
            return worlds;
        }

        private int readPart(int depth) {
            int worlds = readFactor(depth);
            for (int n = 0; n < Text.ROOM && isAt('&'); n++) {
                tokens.step();
                worlds &= readFactor(depth);
            }
            return worlds;
        }

        private int readFactor(int depth) {
            if (isAt(Tokens.LETTER) && letters < MOST_LETTERS) {
                int worlds = tokens.value;
                letters++;
                tokens.step();
                return worlds;
            }
            if (isAt('!') && depth < MOST_OPEN) {
                tokens.step();
                return ALL_WORLDS & ~readFactor(depth + 1);
            }
            if (isAt('(') && depth < MOST_OPEN) {
                tokens.step();
                int worlds = readFormula(depth + 1);
                if (isAt(')')) {
                    tokens.step();
                    return worlds;
                }
            }
            fail();
            return 0;
        }

        private int readHundredths(int least) {
            if (isAt(Tokens.NUMBER) && tokens.value >= least && tokens.value <= HUNDREDTHS) {
                int hundredths = tokens.value;
                tokens.step();
                return hundredths;
            }
            fail();
            return 0;
        }

        private void expect(int kind) {
            if (isAt(kind)) {
                tokens.step();
            } else {
                fail();
            }
        }

        /** Behind a fault nothing is read any more. */
        private boolean isAt(int kind) {
            return fault < 0 && tokens.kind == kind;
        }

        private void fail() {
            if (fault < 0) {
                fault = tokens.start;
            }
        }
    }

    /** A fraction whose lower number is above 0, or none. */
    private static final class Fraction {
        private long upper;
        private long lower;

        void forget() {
            upper = 0;
            lower = 0;
        }

        /** None, if the lower number is not above 0. */
        void set(long up, long low) {
            upper = low > 0 ? up : 0;
            lower = low > 0 ? low : 0;
        }

        /** Takes the other one if it is less (which = 0), greater (1), or if there was none. */
        void improve(long up, long low, int which) {
            long ahead = up * lower - upper * low;
            if (lower == 0 || (which == 0 ? ahead < 0 : ahead > 0)) {
                set(up, low);
            }
        }

        boolean isSameAs(Fraction another) {
            if (lower == 0 || another.lower == 0) {
                return lower == another.lower;
            }
            return upper * another.lower == another.upper * lower;
        }

        /** The upper number (what = 0), the lower one (1); NO: there is none. */
        long inLeastTerms(int what) {
            long divisor = commonDivisor(Math.abs(upper), lower);
            if (lower == 0 || divisor == 0) {
                return NO;
            }
            return (what == 0 ? upper : lower) / divisor;
        }
    }

    /** A TOLD ROW. */
    private static final class ToldRow {
        private static final int AT_FIRST = 125;

        private final int[] thousandths = new int[WORLDS];

        ToldRow() {
            for (int world = 0; world < WORLDS; world++) {
                thousandths[world] = AT_FIRST;
            }
        }

        int chance(int thing) {
            int sum = 0;
            for (int world = 0; world < WORLDS; world++) {
                if (has(thing, world)) {
                    sum += thousandths[world];
                }
            }
            return sum;
        }

        boolean isWhole() {
            return chance(ALL_WORLDS) == THOUSANDTHS;
        }

        boolean keeps(Saying saying) {
            return saying.isKeptBy(chance(saying.x & saying.y), chance(saying.y));
        }
    }

    /**
     * The corners of the rows that can be by some sayings. A corner's parts are whole numbers with
     * no common divisor; its chances are their shares of all of them.
     */
    private static final class Corners {
        /** Of eight directions an edge has two: the others are taken by a limit each, at least. */
        private static final int LIMITS_OF_EDGE = WORLDS - 2;

        private final long[] parts;
        /** Which limits a corner lies on: a bit for each world without a chance, FROM and TO. */
        private final int[] limits;
        private final long[] overFrom;
        private final long[] underTo;
        private final long[] mixed = new long[WORLDS];
        private final Saying cutBy = new Saying();
        private final int fromBit;
        private final int toBit;
        private final int room;
        private int corners;

        Corners(int step, int room) {
            this.room = Math.max(room, 0);
            parts = new long[WORLDS * this.room];
            limits = new int[this.room];
            overFrom = new long[this.room];
            underTo = new long[this.room];
            fromBit = 1 << WORLDS + 2 * step;
            toBit = fromBit << 1;
        }

        /** The corners where there is no saying: each world for sure. */
        void startWithWorlds() {
            corners = 0;
            for (int world = 0; world < WORLDS; world++) {
                for (int w = 0; w < WORLDS; w++) {
                    mixed[w] = w == world ? 1 : 0;
                }
                add(ALL_WORLDS & ~(1 << world));
            }
        }

        /**
         * Takes what a saying leaves of others: the corners that keep it, and one where an edge
         * goes through FROM or TO. FROM and TO meet only where Y has no chance, so no edge that
         * FROM makes goes through TO, and both can be taken on the edges there were.
         */
        void cut(Corners before, Saying by) {
            cutBy.take(by);
            corners = 0;
            before.measure(by);
            for (int corner = 0; corner < before.corners; corner++) {
                if (before.overFrom[corner] >= 0 && before.underTo[corner] >= 0) {
                    keep(before, corner);
                }
            }
            if (by.from == by.to) {
                addCrossings(before, before.overFrom, fromBit | toBit);
            } else {
                addCrossings(before, before.overFrom, fromBit);
                addCrossings(before, before.underTo, toBit);
            }
        }

        private void measure(Saying by) {
            for (int corner = 0; corner < corners; corner++) {
                long both = weight(corner, by.x & by.y);
                long condition = weight(corner, by.y);
                overFrom[corner] = by.overFrom(both, condition);
                underTo[corner] = by.underTo(both, condition);
            }
        }

        /** Two corners make an edge if no third one lies on all the limits that they share. */
        private boolean isEdge(int p, int q) {
            int shared = limits[p] & limits[q];
            if (Integer.bitCount(shared) < LIMITS_OF_EDGE) {
                return false;
            }
            for (int r = 0; r < corners; r++) {
                if (r != p && r != q && (limits[r] & shared) == shared) {
                    return false;
                }
            }
            return true;
        }

        private void keep(Corners before, int corner) {
            for (int world = 0; world < WORLDS; world++) {
                mixed[world] = before.parts[WORLDS * corner + world];
            }
            int met = before.limits[corner];
            met |= before.overFrom[corner] == 0 ? fromBit : 0;
            met |= before.underTo[corner] == 0 ? toBit : 0;
            add(met);
        }

        private void addCrossings(Corners before, long[] slack, int met) {
            for (int p = 0; p < before.corners; p++) {
                for (int q = 0; q < before.corners && slack[p] < 0; q++) {
                    if (slack[q] > 0 && before.isEdge(p, q)) {
                        mix(before, p, slack[q], q, -slack[p]);
                        add(before.limits[p] & before.limits[q] | met);
                    }
                }
            }
        }

        private void mix(Corners before, int p, long timesP, int q, long timesQ) {
            for (int world = 0; world < WORLDS; world++) {
                mixed[world] = timesP * before.parts[WORLDS * p + world]
                        + timesQ * before.parts[WORLDS * q + world];
            }
        }

        private void add(int met) {
            long divisor = 0;
            for (int world = 0; world < WORLDS; world++) {
                divisor = commonDivisor(mixed[world], divisor);
            }
            if (divisor == 0 || corners >= room) {
                return;
            }
            for (int world = 0; world < WORLDS; world++) {
                parts[WORLDS * corners + world] = mixed[world] / divisor;
            }
            limits[corners] = met;
            corners++;
        }

        private long weight(int corner, int thing) {
            long sum = 0;
            for (int world = 0; world < WORLDS; world++) {
                if (has(thing, world)) {
                    sum += parts[WORLDS * corner + world];
                }
            }
            return sum;
        }

        boolean isEmpty() {
            return corners == 0;
        }

        /** Corners where the condition has no chance do not count: they mix without moving it. */
        void findShare(int thing, int condition, int which, Fraction best) {
            best.forget();
            for (int corner = 0; corner < corners; corner++) {
                long whole = weight(corner, condition);
                if (whole > 0) {
                    best.improve(weight(corner, thing & condition), whole, which);
                }
            }
        }

        void findDifference(int thing, int another, int which, Fraction best) {
            best.forget();
            for (int corner = 0; corner < corners; corner++) {
                long less = weight(corner, thing) - weight(corner, another);
                best.improve(less, weight(corner, ALL_WORLDS), which);
            }
        }

        void findInFirstRow(int world, Fraction chance) {
            chance.forget();
            if (corners == 0) {
                return;
            }
            int foremost = 0;
            for (int corner = 1; corner < corners; corner++) {
                if (isAhead(corner, foremost)) {
                    foremost = corner;
                }
            }
            chance.set(weight(foremost, 1 << world), weight(foremost, ALL_WORLDS));
        }

        private boolean isAhead(int p, int q) {
            long wholeP = weight(p, ALL_WORLDS);
            long wholeQ = weight(q, ALL_WORLDS);
            for (int world = 0; world < WORLDS; world++) {
                long shareP = parts[WORLDS * p + world] * wholeQ;
                long shareQ = parts[WORLDS * q + world] * wholeP;
                if (shareP != shareQ) {
                    return shareP < shareQ;
                }
            }
            return false;
        }

        int worldsWithoutChance() {
            int without = ALL_WORLDS;
            for (int corner = 0; corner < corners; corner++) {
                without &= limits[corner];
            }
            return without;
        }

        boolean allKeep(Saying saying) {
            for (int corner = 0; corner < corners; corner++) {
                long both = weight(corner, saying.x & saying.y);
                if (!saying.isKeptBy(both, weight(corner, saying.y))) {
                    return false;
                }
            }
            return true;
        }
    }

    /**
     * The corners by no saying, by one, by two and so on, each step made of the one below it. Steps
     * that fit what is asked next are kept: sets in rising order share their higher members.
     */
    private static final class Ladder {
        /**
         * As many corners as a body of seven directions with 8, 10, 12, 14, 16 limits can have:
         * 2 * C(limits - 4, 3).
         */
        private static final int[] ROOM_OF_STEP = {8, 40, 112, 240, 440};

        private final Corners[] steps;
        private final Saying asked;
        private int built;

        Ladder() {
            steps = new Corners[ROOM_OF_STEP.length];
            for (int step = 0; step < steps.length; step++) {
                steps[step] = new Corners(step, ROOM_OF_STEP[step]);
            }
            steps[0].startWithWorlds();
            asked = new Saying();
        }

        /** The rows that can be by a set of sayings, of which some give way by so much. */
        Corners rowsBy(Saying[] sayings, int set, int giving, int by) {
            int step = 0;
            for (int i = sayings.length - 1; i >= 0; i--) {
                if (has(set, i) && step + 1 < steps.length) {
                    step++;
                    asked.take(sayings[i]);
                    asked.loosen(has(giving, i) ? by : 0);
                    if (step > built || !steps[step].cutBy.saysSameAs(asked)) {
                        steps[step].cut(steps[step - 1], asked);
                        built = step;
                    }
                }
            }
            return steps[step];
        }
    }
}
