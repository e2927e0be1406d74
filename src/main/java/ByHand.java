/**
 * A market of THINGS, the HANDS that tell one heavier than another one, what was said of them, and SHEETS of cells.
 * Words in capitals are those of the document.
 */
public final class ByHand {
    public static final int UNKNOWN = -1, OUTSIDE = -2, STATE = -3, FULL = -4, NONE = -9;
    public static final long LOST = Long.MIN_VALUE;

    private static final int NO_FAULT = 0, NULL = 1, CAST = 2, INDEX = 3, SIZE = 4;
    private static final int FAULT_BASE = -10, TEXT_FAULT_BASE = -100;
    private static final int PLAIN = 0, STEADY = 1, SMITH = 2;
    private static final int BYTES = 0, SHORTS = 1, INTS = 2;
    private static final int LEAST_THINGS = 2, MOST_THINGS = 8, SETS_OF_THINGS = 1 << MOST_THINGS;
    private static final int MOST_WEIGHT = 999, MOST_WEIGHT_ASKED = 9999;
    private static final int MOST_HANDS = 6, MOST_PART = 20;
    private static final int MOST_SWAPS_TILL_NOON = 99, MOST_SWAPS_OF_GAIN = 8;
    private static final int MOST_SAYINGS = 10, SAID_ALIKE = 0, SAID_HEAVIER = 1;
    private static final int MOST_IN_ROW = 5, MOST_ORDERS_OF_ROW = 120;
    private static final int ALL_SHEETS = 4, MOST_CELLS = 40;
    private static final int HAND_BODY = 1, STEADY_BODY = 2, SMITH_BODY = 3, LENT_BODY = 4, SMITHS_OWN_BODY = 5;
    private static final int STEADY_MORE = 100, SMITH_SHAKEN = 60;

    private final Things things = new Things();
    private final Hands hands = new Hands();
    private final Sayings sayings = new Sayings();
    private final Sheets sheets = new Sheets();
    private final Telling telling = new Telling();
    private final Telling otherTelling = new Telling();
    private final HandRow handRow = new HandRow();
    private int traceLeft = 0;
    private int latestFault = NO_FAULT;

    public ByHand() {
    }

    // ---- 1 the market.

    public int market(int sheet, int sort, int i, int n) {
        latestFault = NO_FAULT;
        if (!sheets.has(sheet)) {
            return UNKNOWN;
        }
        if (!isSort(sort)) {
            return OUTSIDE;
        }
        int fault = sheets.faultOfTaking(sheet, sort, i, n);
        if (fault != NO_FAULT) {
            return faulty(fault);
        }
        int textFault = Text.firstFault(sheets, sheet, i, n);
        if (textFault != Text.NO_FAULT_IN_TEXT) {
            return TEXT_FAULT_BASE - textFault;
        }
        hands.clear();
        sayings.clear();
        Text.read(sheets, sheet, i, n, things);
        return things.count();
    }

    public int weight(int x) {
        return things.has(x) ? things.weightOf(x) : UNKNOWN;
    }

    public int weigh(int x, int v) {
        if (!things.has(x)) {
            return UNKNOWN;
        }
        if (v < 1 || v > MOST_WEIGHT) {
            return OUTSIDE;
        }
        int was = things.weightOf(x);
        things.setWeight(x, v);
        return was;
    }

    // ---- 2 hands.

    public int hand(int kind, int part) {
        if (!isKind(kind) || part < 1 || part > MOST_PART) {
            return OUTSIDE;
        }
        if (things.count() == 0) {
            return STATE;
        }
        return hands.add(kind, part);
    }

    public int ofHand(int h, int what) {
        if (!hands.has(h)) {
            return UNKNOWN;
        }
        if (!isFirstOrSecond(what)) {
            return OUTSIDE;
        }
        return what == 0 ? hands.kindOf(h) : hands.partOf(h);
    }

    public int tells(int h, int weight, int than) {
        if (!hands.has(h)) {
            return UNKNOWN;
        }
        if (weight < 1 || weight > MOST_WEIGHT_ASKED || than < 1 || than > MOST_WEIGHT_ASKED) {
            return OUTSIDE;
        }
        return hands.feelsHeavier(h, weight, than) ? 1 : 0;
    }

    public int alike(int h, int x) {
        if (!hands.has(h) || !things.has(x)) {
            return UNKNOWN;
        }
        telling.lay(hands, h, things);
        return telling.alikeTo(x);
    }

    public int finer(int h, int than) {
        if (!hands.has(h) || !hands.has(than)) {
            return UNKNOWN;
        }
        telling.lay(hands, h, things);
        otherTelling.lay(hands, than, things);
        return telling.isFinerThan(otherTelling) ? 1 : 0;
    }

    // ---- 3 swaps.

    public int way(int h, int from, int to, int q) {
        if (!hands.has(h) || !things.has(from) || !things.has(to) || q < -1) {
            return UNKNOWN;
        }
        telling.lay(hands, h, things);
        return q == -1 ? telling.fewestSwaps(from, to) : telling.behindSwaps(from, to, q);
    }

    public int noon(int h, int x, int k) {
        if (!hands.has(h) || !things.has(x)) {
            return UNKNOWN;
        }
        if (k < 0 || k > MOST_SWAPS_TILL_NOON) {
            return OUTSIDE;
        }
        telling.lay(hands, h, things);
        return telling.within(x, k);
    }

    public int gain(int theirs, int own, int x, int k, int what) {
        if (!hands.has(theirs) || !hands.has(own) || !things.has(x)) {
            return UNKNOWN;
        }
        if (k < 0 || k > MOST_SWAPS_OF_GAIN || !isFirstOrSecond(what)) {
            return OUTSIDE;
        }
        telling.lay(hands, theirs, things);
        otherTelling.lay(hands, own, things);
        int reached = 1 << x;
        int greatest = things.weightOf(x);
        int swapsOfGreatest = 0;
        for (int swaps = 1; swaps <= k; swaps++) {
            reached = swappedUp(reached);
            int come = things.greatestOf(reached);
            if (come > greatest) {
                greatest = come;
                swapsOfGreatest = swaps;
            }
        }
        return what == 0 ? greatest : swapsOfGreatest;
    }

    /** What can be got for one of the held THINGS by one swap, with theirs laid in telling and one's own in the other one. */
    private int swappedUp(int held) {
        int got = 0;
        for (int y = 0; y < things.count(); y++) {
            if ((held & telling.alikeTo(y) & otherTelling.lighterThan(y)) != 0) {
                got |= 1 << y;
            }
        }
        return got;
    }

    // ---- 4 sayings.

    public int saying(int h, int x, int y, int said) {
        if (!hands.has(h) || !things.has(x) || !things.has(y) || x == y) {
            return UNKNOWN;
        }
        if (said != SAID_ALIKE && said != SAID_HEAVIER) {
            return OUTSIDE;
        }
        return sayings.add(h, x, y, said);
    }

    public int back(int k) {
        if (k < 0 || k > sayings.count()) {
            return OUTSIDE;
        }
        return sayings.takeBack(k);
    }

    public int untrue() {
        int untrue = 0;
        for (int s = 0; s < sayings.count(); s++) {
            int first = things.weightOf(sayings.firstOf(s));
            int second = things.weightOf(sayings.secondOf(s));
            if (sayings.isFalse(s, hands, first, second)) {
                untrue |= 1 << s;
            }
        }
        return untrue;
    }

    public int leaves(int x, int what) {
        if (!things.has(x)) {
            return UNKNOWN;
        }
        if (what < 0 || what > 2) {
            return OUTSIDE;
        }
        int many = 0;
        int least = NONE;
        int greatest = NONE;
        for (int v = 1; v <= MOST_WEIGHT; v++) {
            if (falseByWeight(x, v) == 0) {
                many++;
                least = least == NONE ? v : least;
                greatest = v;
            }
        }
        if (what == 0) {
            return many;
        }
        return what == 1 ? least : greatest;
    }

    public int breaks(int x, int what) {
        if (!things.has(x)) {
            return UNKNOWN;
        }
        if (!isFirstOrSecond(what)) {
            return OUTSIDE;
        }
        int fewest = MOST_SAYINGS + 1;
        int weightOfFewest = 1;
        for (int v = 1; v <= MOST_WEIGHT; v++) {
            int many = falseByWeight(x, v);
            if (many < fewest) {
                fewest = many;
                weightOfFewest = v;
            }
        }
        return what == 0 ? fewest : weightOfFewest;
    }

    /** How many SAYINGS that name x are false if it weighs v, other THINGS as they are. */
    private int falseByWeight(int x, int v) {
        int many = 0;
        for (int s = 0; s < sayings.count(); s++) {
            int first = sayings.firstOf(s);
            int second = sayings.secondOf(s);
            if (first != x && second != x) {
                continue;
            }
            int firstWeight = first == x ? v : things.weightOf(first);
            int secondWeight = second == x ? v : things.weightOf(second);
            if (sayings.isFalse(s, hands, firstWeight, secondWeight)) {
                many++;
            }
        }
        return many;
    }

    // ---- 5 rows, copies, sets.

    public int rows(int h, int q) {
        if (!hands.has(h) || q < -1 || q >= things.count()) {
            return UNKNOWN;
        }
        telling.lay(hands, h, things);
        return q == -1 ? telling.countOrders() : telling.placeInFirstOrder(q);
    }

    public int longest(int h) {
        if (!hands.has(h)) {
            return UNKNOWN;
        }
        telling.lay(hands, h, things);
        return telling.longestChain();
    }

    public int crowd(int h) {
        if (!hands.has(h)) {
            return UNKNOWN;
        }
        telling.lay(hands, h, things);
        return telling.greatestCrowd();
    }

    public int measure(int h, int what) {
        if (!hands.has(h)) {
            return UNKNOWN;
        }
        if (!isFirstOrSecond(what)) {
            return OUTSIDE;
        }
        telling.lay(hands, h, things);
        int thing = 0;
        for (int x = 1; x < things.count(); x++) {
            if (telling.othersAlikeTo(x) > telling.othersAlikeTo(thing)) {
                thing = x;
            }
        }
        return what == 0 ? thing : telling.othersAlikeTo(thing);
    }

    public int copies(int weight, int sheet, int sort, int i, int n, int what) {
        latestFault = NO_FAULT;
        if (!sheets.has(sheet)) {
            return UNKNOWN;
        }
        if (!isSort(sort) || weight < 1 || weight > MOST_WEIGHT || !isFirstOrSecond(what)) {
            return OUTSIDE;
        }
        int refusal = takeHandRow(sheet, sort, i, n);
        if (refusal != 0) {
            return refusal;
        }
        return what == 0 ? handRow.greatestCopy(hands, weight) : handRow.leastCopy(hands, weight);
    }

    public int bestRow(int weight, int sheet, int sort, int i, int n, int q) {
        latestFault = NO_FAULT;
        if (!sheets.has(sheet)) {
            return UNKNOWN;
        }
        if (!isSort(sort) || weight < 1 || weight > MOST_WEIGHT) {
            return OUTSIDE;
        }
        int refusal = takeHandRow(sheet, sort, i, n);
        if (refusal != 0) {
            return refusal;
        }
        if (q < -1 || q >= n) {
            return UNKNOWN;
        }
        int leastSpread = handRow.findBest(hands, weight);
        return q == -1 ? leastSpread : handRow.inBest(q);
    }

    /** Fills handRow from n cells; 0, or what the call is to answer instead, from its FAULTS on. */
    private int takeHandRow(int sheet, int sort, int i, int n) {
        int fault = sheets.faultOfTaking(sheet, sort, i, n);
        if (fault != NO_FAULT) {
            return faulty(fault);
        }
        if (n < 1 || n > MOST_IN_ROW) {
            return OUTSIDE;
        }
        handRow.clear();
        for (int place = 0; place < n; place++) {
            int h = sheets.cellOf(sheet, i + place);
            if (!hands.has(h)) {
                return UNKNOWN;
            }
            handRow.add(h);
        }
        return 0;
    }

    public int even(int h, int what) {
        if (!hands.has(h)) {
            return UNKNOWN;
        }
        if (!isFirstOrSecond(what)) {
            return OUTSIDE;
        }
        int first = NONE;
        int other = NONE;
        int most = 0;
        // Both sets are come to from the least on, so among pairs of as many THINGS the first one stands.
        for (int a = 1; a < 1 << things.count(); a++) {
            int weightOfFirst = things.weightTogether(a);
            for (int b = a + 1; b < 1 << things.count(); b++) {
                if ((a & b) == 0 && Integer.bitCount(a | b) > most
                        && hands.feelsAlike(h, weightOfFirst, things.weightTogether(b))) {
                    first = a;
                    other = b;
                    most = Integer.bitCount(a | b);
                }
            }
        }
        return what == 0 ? first : other;
    }

    public long odds(int h, int which) {
        if (!hands.has(h) || !isFirstOrSecond(which)) {
            return LOST;
        }
        telling.lay(hands, h, things);
        int told = telling.countTold();
        int pairs = things.count() * (things.count() - 1) / 2;
        int common = commonDivisor(told, pairs);
        if (common < 1) {
            return LOST;
        }
        return which == 0 ? told / common : pairs / common;
    }

    /** The greatest divisor of both, as it is found by trying from the second one (above 0) down. */
    private static int commonDivisor(int a, int b) {
        for (int divisor = b; divisor > 1; divisor--) {
            if (a % divisor == 0 && b % divisor == 0) {
                return divisor;
            }
        }
        return 1;
    }

    // ---- 6 sheets, parts.

    public int sheet(int k, int sort, int n) {
        latestFault = NO_FAULT;
        if (!sheets.has(k)) {
            return UNKNOWN;
        }
        if (!isSort(sort) || n > MOST_CELLS) {
            return OUTSIDE;
        }
        if (n < 0) {
            return faulty(SIZE);
        }
        sheets.renew(k, sort, n);
        return 1;
    }

    public int lose(int k) {
        if (!sheets.has(k)) {
            return UNKNOWN;
        }
        return sheets.empty(k) ? 1 : 0;
    }

    public int put(int k, int i, int v) {
        latestFault = NO_FAULT;
        if (!sheets.has(k)) {
            return UNKNOWN;
        }
        if (!sheets.hasRow(k)) {
            return faulty(NULL);
        }
        if (!sheets.hasCells(k, i, 1)) {
            return faulty(INDEX);
        }
        sheets.setCell(k, i, v);
        return 1;
    }

    public long cell(int k, int i, int sort) {
        latestFault = NO_FAULT;
        if (!sheets.has(k) || !isSort(sort)) {
            return LOST;
        }
        latestFault = sheets.faultOfTaking(k, sort, i, 1);
        return latestFault == NO_FAULT ? sheets.cellOf(k, i) : LOST;
    }

    public int copy(int k, int i, int other, int j, int n) {
        latestFault = NO_FAULT;
        if (!sheets.has(k) || !sheets.has(other)) {
            return UNKNOWN;
        }
        if (!sheets.hasRow(k) || !sheets.hasRow(other)) {
            return faulty(NULL);
        }
        if (sheets.sortOf(k) != sheets.sortOf(other)) {
            return faulty(CAST);
        }
        if (!sheets.hasCells(k, i, n) || !sheets.hasCells(other, j, n)) {
            return faulty(INDEX);
        }
        sheets.copyCells(k, i, other, j, n);
        return n;
    }

    public int tell(int h) {
        if (!hands.has(h)) {
            return UNKNOWN;
        }
        int part = hands.partOf(h);
        switch (hands.kindOf(h)) {
            case SMITH:
                return smithBody(part);
            case STEADY:
                return steadyBody(part);
            default:
                return handBody(part);
        }
    }

    public int shake(int h) {
        if (!hands.has(h)) {
            return UNKNOWN;
        }
        return hands.kindOf(h) == SMITH ? smithsOwnBody() : lentBody(h);
    }

    public int as(int h, int kind) {
        latestFault = NO_FAULT;
        if (!hands.has(h)) {
            return UNKNOWN;
        }
        if (!isKind(kind)) {
            return OUTSIDE;
        }
        // Each kind is one of all kinds of a lesser number, too.
        return kind <= hands.kindOf(h) ? 1 : faulty(CAST);
    }

    public int trace() {
        return traceLeft;
    }

    public int fault() {
        return latestFault;
    }

    public int many(int what) {
        switch (what) {
            case 0:
                return things.count();
            case 1:
                return hands.count();
            case 2:
                return sayings.count();
            default:
                return OUTSIDE;
        }
    }

    private int handBody(int part) {
        leaveTrace(HAND_BODY);
        return part;
    }

    private int steadyBody(int part) {
        leaveTrace(STEADY_BODY);
        return handBody(part) + STEADY_MORE;
    }

    private int smithBody(int part) {
        leaveTrace(SMITH_BODY);
        int steady = steadyBody(part);
        return steady + handBody(part);
    }

    private int lentBody(int h) {
        leaveTrace(LENT_BODY);
        return h;
    }

    private int smithsOwnBody() {
        leaveTrace(SMITHS_OWN_BODY);
        return SMITH_SHAKEN;
    }

    private void leaveTrace(int body) {
        traceLeft = 31 * traceLeft + body;
    }

    /** Keeps a FAULT and gives what a call of it answers. */
    private int faulty(int fault) {
        latestFault = fault;
        return FAULT_BASE - fault;
    }

    private static boolean isSort(int sort) {
        return sort >= BYTES && sort <= INTS;
    }

    private static boolean isKind(int kind) {
        return kind >= PLAIN && kind <= SMITH;
    }

    private static boolean isFirstOrSecond(int what) {
        return what == 0 || what == 1;
    }

    /** Reads the TEXT of a MARKET from cells: three digits a THING, with ; between, so that a place tells what may stand there. */
    private static final class Text {
        static final int NO_FAULT_IN_TEXT = -1;
        private static final int SEMICOLON = 59, ZERO = 48, NINE = 57;
        private static final int STEP = 4, SEMICOLON_IN_STEP = 3, LAST_DIGIT_IN_STEP = 2;

        private Text() {
        }

        static int firstFault(Sheets sheets, int k, int i, int n) {
            for (int place = 0; place < n; place++) {
                if (!goesOn(sheets, k, i, place)) {
                    return place;
                }
            }
            boolean endsWithThing = n % STEP == SEMICOLON_IN_STEP;
            boolean enough = n >= LEAST_THINGS * STEP - 1;
            return endsWithThing && enough ? NO_FAULT_IN_TEXT : n;
        }

        private static boolean goesOn(Sheets sheets, int k, int i, int place) {
            int code = sheets.cellOf(k, i + place);
            int inStep = place % STEP;
            if (inStep == SEMICOLON_IN_STEP) {
                return code == SEMICOLON && place < MOST_THINGS * STEP - 1;
            }
            if (code < ZERO || code > NINE) {
                return false;
            }
            return inStep != LAST_DIGIT_IN_STEP || number(sheets, k, i + place - LAST_DIGIT_IN_STEP) != 0;
        }

        /** Takes over the WEIGHTS of a TEXT without a fault. */
        static void read(Sheets sheets, int k, int i, int n, Things things) {
            things.clear();
            for (int place = 0; place < n; place += STEP) {
                things.add(number(sheets, k, i + place));
            }
        }

        private static int number(Sheets sheets, int k, int i) {
            int number = 0;
            for (int digit = 0; digit < SEMICOLON_IN_STEP; digit++) {
                number = 10 * number + sheets.cellOf(k, i + digit) - ZERO;
            }
            return number;
        }
    }

    private static final class Things {
        private int count = 0;
        private final int[] weights = new int[MOST_THINGS];

        int count() {
            return count;
        }

        boolean has(int x) {
            return x >= 0 && x < count && x < weights.length;
        }

        int weightOf(int x) {
            return has(x) ? weights[x] : 0;
        }

        void setWeight(int x, int v) {
            if (has(x)) {
                weights[x] = v;
            }
        }

        void clear() {
            count = 0;
        }

        void add(int v) {
            if (count < weights.length) {
                weights[count] = v;
                count++;
            }
        }

        int weightTogether(int set) {
            int together = 0;
            for (int x = 0; x < count; x++) {
                together += isIn(set, x) ? weightOf(x) : 0;
            }
            return together;
        }

        /** The greatest WEIGHT in a set; 0 if it is empty. */
        int greatestOf(int set) {
            int greatest = 0;
            for (int x = 0; x < count; x++) {
                greatest = isIn(set, x) ? Math.max(greatest, weightOf(x)) : greatest;
            }
            return greatest;
        }
    }

    private static boolean isIn(int set, int number) {
        return (set >> number & 1) == 1;
    }

    private static final class Hands {
        private int count = 0;
        private final int[] kinds = new int[MOST_HANDS];
        private final int[] parts = new int[MOST_HANDS];

        int count() {
            return count;
        }

        boolean has(int h) {
            return h >= 0 && h < count && h < MOST_HANDS;
        }

        int kindOf(int h) {
            return has(h) ? kinds[h] : PLAIN;
        }

        int partOf(int h) {
            return has(h) ? parts[h] : 1;
        }

        void clear() {
            count = 0;
        }

        /** The number of the new HAND, or FULL. */
        int add(int kind, int part) {
            if (count >= MOST_HANDS) {
                return FULL;
            }
            kinds[count] = kind;
            parts[count] = part;
            count++;
            return count - 1;
        }

        /** By how much a HAND multiplies what one WEIGHT is more than the other one. */
        private int timesOf(int h) {
            if (!has(h)) {
                return 1;
            }
            return kinds[h] == PLAIN ? parts[h] : 2 * parts[h];
        }

        boolean feelsHeavier(int h, int weight, int than) {
            if (weight <= than) {
                return false;
            }
            int more = (weight - than) * timesOf(h);
            return more > than || kindOf(h) == SMITH && more == than;
        }

        boolean feelsAlike(int h, int weight, int other) {
            return !feelsHeavier(h, weight, other) && !feelsHeavier(h, other, weight);
        }

        /** The greatest WEIGHT that a HAND does not TELL from one. */
        int greatestUntold(int h, int weight) {
            int times = timesOf(h);
            if (times < 1) {
                return weight;
            }
            return weight + (kindOf(h) == SMITH ? weight - 1 : weight) / times;
        }

        /** The least WEIGHT from which a HAND does not TELL one. */
        int leastUntold(int h, int weight) {
            int times = timesOf(h);
            if (times < 1) {
                return weight;
            }
            int scaled = weight * times;
            return kindOf(h) == SMITH ? scaled / (times + 1) + 1 : (scaled + times) / (times + 1);
        }
    }

    private static final class Sayings {
        private int count = 0;
        private final int[] sayers = new int[MOST_SAYINGS];
        private final int[] firsts = new int[MOST_SAYINGS];
        private final int[] seconds = new int[MOST_SAYINGS];
        private final int[] words = new int[MOST_SAYINGS];

        int count() {
            return count;
        }

        private boolean has(int s) {
            return s >= 0 && s < count && s < MOST_SAYINGS;
        }

        int firstOf(int s) {
            return has(s) ? firsts[s] : UNKNOWN;
        }

        int secondOf(int s) {
            return has(s) ? seconds[s] : UNKNOWN;
        }

        void clear() {
            count = 0;
        }

        /** The number of the new SAYING, or FULL. */
        int add(int h, int x, int y, int said) {
            if (count >= MOST_SAYINGS) {
                return FULL;
            }
            sayers[count] = h;
            firsts[count] = x;
            seconds[count] = y;
            words[count] = said;
            count++;
            return count - 1;
        }

        int takeBack(int k) {
            count = Math.max(0, count - k);
            return count;
        }

        /** Whether a SAYING is not so, if its THINGS have these WEIGHTS. */
        boolean isFalse(int s, Hands hands, int first, int second) {
            if (!has(s)) {
                return false;
            }
            if (words[s] == SAID_HEAVIER) {
                return !hands.feelsHeavier(sayers[s], first, second);
            }
            return !hands.feelsAlike(sayers[s], first, second);
        }
    }

    /** What one HAND TELLS of all THINGS, as sets; it is laid anew in each call, as WEIGHTS may have changed. */
    private static final class Telling {
        private int count = 0;
        private final int[] lighter = new int[MOST_THINGS];
        private final int[] alikes = new int[MOST_THINGS];
        private final int[] orders = new int[SETS_OF_THINGS];

        void lay(Hands hands, int h, Things things) {
            count = Math.min(things.count(), MOST_THINGS);
            for (int x = 0; x < count; x++) {
                lighter[x] = 0;
                alikes[x] = 0;
                for (int y = 0; y < count; y++) {
                    if (hands.feelsHeavier(h, things.weightOf(x), things.weightOf(y))) {
                        lighter[x] |= 1 << y;
                    }
                    if (hands.feelsAlike(h, things.weightOf(x), things.weightOf(y))) {
                        alikes[x] |= 1 << y;
                    }
                }
            }
        }

        private boolean has(int x) {
            return x >= 0 && x < count && x < MOST_THINGS;
        }

        int alikeTo(int x) {
            return has(x) ? alikes[x] : 0;
        }

        int lighterThan(int x) {
            return has(x) ? lighter[x] : 0;
        }

        int othersAlikeTo(int x) {
            return Integer.bitCount(alikeTo(x)) - 1;
        }

        private int allThings() {
            return (1 << count) - 1;
        }

        boolean isFinerThan(Telling other) {
            boolean more = false;
            for (int x = 0; x < count; x++) {
                if ((other.lighterThan(x) & ~lighterThan(x)) != 0) {
                    return false;
                }
                more = more || other.lighterThan(x) != lighterThan(x);
            }
            return more;
        }

        /** What one can come to by so many FAIR SWAPS or fewer; none needs more of them than there are THINGS. */
        int within(int x, int swaps) {
            int reached = 1 << x;
            for (int swap = 0; swap < swaps && swap < count; swap++) {
                reached |= alikeToAny(reached);
            }
            return reached;
        }

        private int alikeToAny(int set) {
            int any = 0;
            for (int x = 0; x < count; x++) {
                any |= isIn(set, x) ? alikeTo(x) : 0;
            }
            return any;
        }

        int fewestSwaps(int from, int to) {
            for (int swaps = 0; swaps < count; swaps++) {
                if (isIn(within(to, swaps), from)) {
                    return swaps;
                }
            }
            return NONE;
        }

        /** The THING behind q swaps of the WAY: at each swap the least one from which the swaps left are enough. */
        int behindSwaps(int from, int to, int q) {
            int fewest = fewestSwaps(from, to);
            if (fewest == NONE || q > fewest) {
                return NONE;
            }
            int at = from;
            for (int swap = 1; swap <= q; swap++) {
                at = leastIn(alikeTo(at) & within(to, fewest - swap));
            }
            return at;
        }

        private int leastIn(int set) {
            for (int x = 0; x < count; x++) {
                if (isIn(set, x)) {
                    return x;
                }
            }
            return NONE;
        }

        /** In how many orders the THINGS can be laid, from how many there are for each set that is laid first. */
        int countOrders() {
            int many = 0;
            for (int laid = 1; laid <= allThings() && laid < SETS_OF_THINGS; laid++) {
                many = 0;
                for (int last = 0; last < count; last++) {
                    int ahead = laid & ~(1 << last);
                    if (ahead != laid && (lighterThan(last) & ~ahead) == 0) {
                        many += ahead == 0 ? 1 : orders[ahead];
                    }
                }
                orders[laid] = many;
            }
            return many;
        }

        /** The q-th THING of the first order: the least one that fits is right each time, as what is left can always be laid. */
        int placeInFirstOrder(int q) {
            int laid = 0;
            int next = NONE;
            for (int place = 0; place <= q; place++) {
                next = leastIn(fittingBehind(laid));
                laid |= next == NONE ? 0 : 1 << next;
            }
            return next;
        }

        private int fittingBehind(int laid) {
            int fitting = 0;
            for (int x = 0; x < count; x++) {
                if (!isIn(laid, x) && (lighterThan(x) & ~laid) == 0) {
                    fitting |= 1 << x;
                }
            }
            return fitting;
        }

        int longestChain() {
            int ends = allThings();
            int length = 0;
            for (int tries = 0; tries < count && ends != 0; tries++) {
                length++;
                ends = heavierThanAny(ends);
            }
            return length;
        }

        private int heavierThanAny(int set) {
            int heavier = 0;
            for (int x = 0; x < count; x++) {
                if ((lighterThan(x) & set) != 0) {
                    heavier |= 1 << x;
                }
            }
            return heavier;
        }

        int greatestCrowd() {
            int crowd = 0;
            for (int set = 1; set <= allThings(); set++) {
                if (Integer.bitCount(set) > Integer.bitCount(crowd) && areAllAlike(set)) {
                    crowd = set;
                }
            }
            return crowd;
        }

        private boolean areAllAlike(int set) {
            for (int x = 0; x < count; x++) {
                if (isIn(set, x) && (set & ~alikeTo(x)) != 0) {
                    return false;
                }
            }
            return true;
        }

        /** How many pairs are told one from the other; never both ways, so each counts once. */
        int countTold() {
            int told = 0;
            for (int x = 0; x < count; x++) {
                told += Integer.bitCount(lighterThan(x));
            }
            return told;
        }
    }

    /** A row of HANDS by which a WEIGHT is copied, and the best order of the same ones. */
    private static final class HandRow {
        private int count = 0;
        private final int[] row = new int[MOST_IN_ROW];
        private final int[] best = new int[MOST_IN_ROW];

        void clear() {
            count = 0;
        }

        void add(int h) {
            if (count < MOST_IN_ROW) {
                row[count] = h;
                count++;
            }
        }

        private boolean has(int place) {
            return place >= 0 && place < count && place < MOST_IN_ROW;
        }

        private int inRow(int place) {
            return has(place) ? row[place] : UNKNOWN;
        }

        int inBest(int q) {
            return has(q) ? best[q] : UNKNOWN;
        }

        int greatestCopy(Hands hands, int weight) {
            int copy = weight;
            for (int place = 0; place < count; place++) {
                copy = hands.greatestUntold(inRow(place), copy);
            }
            return copy;
        }

        int leastCopy(Hands hands, int weight) {
            int copy = weight;
            for (int place = 0; place < count; place++) {
                copy = hands.leastUntold(inRow(place), copy);
            }
            return copy;
        }

        private int spread(Hands hands, int weight) {
            return greatestCopy(hands, weight) - leastCopy(hands, weight);
        }

        /** Lays the best order and gives its spread; orders are tried from the first on, so of several the first stands. */
        int findBest(Hands hands, int weight) {
            sortRow();
            int leastSpread = spread(hands, weight);
            keepAsBest();
            for (int tried = 1; tried < MOST_ORDERS_OF_ROW && toNextOrder(); tried++) {
                int spread = spread(hands, weight);
                if (spread < leastSpread) {
                    leastSpread = spread;
                    keepAsBest();
                }
            }
            return leastSpread;
        }

        private void keepAsBest() {
            for (int place = 0; place < count && place < MOST_IN_ROW; place++) {
                best[place] = row[place];
            }
        }

        private void sortRow() {
            for (int place = 1; place < count; place++) {
                for (int at = place; at > 0 && inRow(at - 1) > inRow(at); at--) {
                    exchange(at - 1, at);
                }
            }
        }

        /** Turns the row into the next greater one of the same numbers; false if it is the last one. */
        private boolean toNextOrder() {
            int rise = count - 2;
            while (rise >= 0 && inRow(rise) >= inRow(rise + 1)) {
                rise--;
            }
            if (rise < 0) {
                return false;
            }
            int greater = count - 1;
            while (greater > rise && inRow(greater) <= inRow(rise)) {
                greater--;
            }
            exchange(rise, greater);
            for (int from = rise + 1, to = count - 1; from < to; from++, to--) {
                exchange(from, to);
            }
            return true;
        }

        private void exchange(int a, int b) {
            if (has(a) && has(b)) {
                int kept = row[a];
                row[a] = row[b];
                row[b] = kept;
            }
        }
    }

    /** The SHEETS; their cells are made once and used again, as all calls of a run share one room. */
    private static final class Sheets {
        private final boolean[] filled = new boolean[ALL_SHEETS];
        private final int[] sorts = new int[ALL_SHEETS];
        private final int[] lengths = new int[ALL_SHEETS];
        private final int[][] cells = new int[ALL_SHEETS][MOST_CELLS];

        boolean has(int k) {
            return k >= 0 && k < ALL_SHEETS;
        }

        boolean hasRow(int k) {
            return has(k) && filled[k];
        }

        int sortOf(int k) {
            return has(k) ? sorts[k] : UNKNOWN;
        }

        /** Whether n cells from i on are there; i and n are compared apart, as their sum could wrap. */
        boolean hasCells(int k, int i, int n) {
            return has(k) && filled[k] && i >= 0 && n >= 0 && i <= lengths[k] && n <= lengths[k] - i;
        }

        int faultOfTaking(int k, int sort, int i, int n) {
            if (!hasRow(k)) {
                return NULL;
            }
            if (sortOf(k) != sort) {
                return CAST;
            }
            if (n < 0) {
                return SIZE;
            }
            return hasCells(k, i, n) ? NO_FAULT : INDEX;
        }

        void renew(int k, int sort, int n) {
            if (!has(k) || n < 0 || n > MOST_CELLS) {
                return;
            }
            filled[k] = true;
            sorts[k] = sort;
            lengths[k] = n;
            for (int i = 0; i < n; i++) {
                cells[k][i] = 0;
            }
        }

        /** Whether there was something to lose. */
        boolean empty(int k) {
            boolean had = hasRow(k);
            if (had) {
                filled[k] = false;
            }
            return had;
        }

        int cellOf(int k, int i) {
            return hasCells(k, i, 1) ? cells[k][i] : 0;
        }

        void setCell(int k, int i, int v) {
            if (hasCells(k, i, 1)) {
                cells[k][i] = cut(sorts[k], v);
            }
        }

        private static int cut(int sort, int v) {
            switch (sort) {
                case BYTES:
                    return (byte) v;
                case SHORTS:
                    return (short) v;
                default:
                    return v;
            }
        }

        void copyCells(int k, int i, int other, int j, int n) {
            if (hasCells(k, i, n) && hasCells(other, j, n)) {
                System.arraycopy(cells[k], i, cells[other], j, n);
            }
        }
    }
}
