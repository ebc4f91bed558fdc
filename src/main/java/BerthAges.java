import java.util.Arrays;

/**
 * A harbour whose ships lie by their age, as ../shared/DOC.md tells it.
 * Everything that a call needs is made with the object: no call makes objects or arrays.
 */
public final class BerthAges {
    public static final int BAD = -1, FULL = -2, FINDING = -3, STATE = -4, SPENT = -6, NONE = -9;

    private static final int NOTHING = 1, BEYOND = 2, UNLIKE = 3, NOUGHT = 4, SIZE = 5, FINDINGS = 5;
    private static final int ROWS = 6, ROW_SIZE = 40, TEXTS = 4, TEXT_SIZE = 60, KEPT = 3;
    private static final int MISSING = -1;
    private static final int BLANK = 32, NOUGHT_SIGN = 48, NINE_SIGN = 57, HARBOUR_SIGN = 104;
    // No byte is like it, so it stands for the sign behind a text's end.
    private static final int NO_SIGN = 1000;
    private static final int MOST_SHIPS = 6, MOST_DEEDS = 40, MOST_TURNS = 5, MOST_LOTS = 20;
    private static final int CUP = 5, MOST_TEA = 20, MOST_MORE_TEA = 40;
    private static final int LAST_YEAR = 999, LAST_BUILT = 99, YEARS_ON = 99, GREATEST_AGE = 2000;
    private static final int SHALLOWEST = 2, OF_TWELVE = 12, DUEL_MORE = 100, PUT_MORE = 1000;
    private static final int SHIP = 0, BELL = 1, PRIZE = 2, RAFT = 3, FORGED = 4, GHOST = 5, KINDS = 6;
    // By kind: s, b, p, r, f, g; and the kind that one is, too.
    private static final int[] LETTERS = {115, 98, 112, 114, 102, 103};
    private static final int[] KIND_ABOVE = {0, 0, 0, 0, 1, 3};
    private static final int BELL_YEARS = 20, FORGED_YEARS = 5, RAFT_AGE = 90;
    private static final int MOVE = 0, PAYMENT = 1, TEATIME = 2, TIDE = 3, YEAR = 4;
    private static final int SHIP_FACTS = 9, COUNTS = 11;
    private static final long LOT_FACTOR = 48271, LOT_MODULUS = 2147483647L;

    private final Sheets rows = new Sheets(ROWS, ROW_SIZE);
    private final Sheets texts = new Sheets(TEXTS, TEXT_SIZE);
    private final Sheets kept = new Sheets(KEPT, MOST_DEEDS);
    private final Harbour port = new Harbour();
    private final Fleet proof = new Fleet();
    private final Queue queue = new Queue(port);
    private final Match match = new Match(port);
    private final Chance chance = new Chance();
    private final int[] timesFound = new int[FINDINGS + 1];
    private int latestFinding = 0;
    private int told = 0;

    public BerthAges() {
    }

    // ---- 1 rows, texts, harbours

    public int row(int r, int n) {
        return laidOut(rows, r, n, 0);
    }

    public int lay(int r, int i, int v) {
        int refusal = refusalOfPlace(rows, r, i);
        if (refusal != 0) {
            return refusal;
        }
        told = rows.get(r, i, 0);
        rows.set(r, i, v);
        return 1;
    }

    public int at(int r, int i) {
        int refusal = refusalOfPlace(rows, r, i);
        if (refusal != 0) {
            return refusal;
        }
        told = rows.get(r, i, 0);
        return 1;
    }

    public int tear(int r) {
        int refusal = refusalOfSheet(rows, r);
        if (refusal != 0) {
            return refusal;
        }
        rows.drop(r);
        return 1;
    }

    public int copy(int r, int i, int to, int j, int n) {
        if (!rows.isNumber(r) || !rows.isNumber(to)) {
            return BAD;
        }
        if (n < 0) {
            return refuse(SIZE);
        }
        if (!rows.isThere(r) || !rows.isThere(to)) {
            return refuse(NOTHING);
        }
        if (!rows.hasPlaces(r, i, n) || !rows.hasPlaces(to, j, n)) {
            return refuse(BEYOND);
        }
        System.arraycopy(rows.places[r], i, rows.places[to], j, n);
        return 1;
    }

    public int mean(int r) {
        int refusal = refusalOfSheet(rows, r);
        if (refusal != 0) {
            return refusal;
        }
        int size = rows.sizes[r];
        if (size <= 0) {
            return refuse(NOUGHT);
        }
        long sum = 0;
        for (int i = 0; i < size; i++) {
            sum += rows.places[r][i];
        }
        told = (int) (sum / size);
        return 1;
    }

    public int text(int t, int n) {
        return laidOut(texts, t, n, BLANK);
    }

    public int put(int t, int i, int v) {
        int refusal = refusalOfPlace(texts, t, i);
        if (refusal != 0) {
            return refusal;
        }
        int before = texts.get(t, i, 0);
        texts.set(t, i, (byte) v);
        return before + PUT_MORE;
    }

    public int fault(int t) {
        int refusal = refusalOfSheet(texts, t);
        return refusal != 0 ? refusal : proof.read(texts.places[t], texts.sizes[t]);
    }

    public int harbour(int t) {
        int place = fault(t);
        if (place != NONE) {
            return place < 0 ? place : STATE;
        }
        port.fleet.read(texts.places[t], texts.sizes[t]);
        port.begin();
        for (int k = 0; k < KEPT; k++) {
            kept.drop(k);
        }
        return port.fleet.ships;
    }

    public int ship(int i, int what) {
        if (!port.isShip(i) || what < 0 || what >= SHIP_FACTS) {
            return BAD;
        }
        told = port.fact(i, what);
        return 1;
    }

    public int mark(int i, int kind) {
        if (!port.isShip(i) || kind <= SHIP || kind >= KINDS) {
            return BAD;
        }
        if (!port.isOf(i, kind)) {
            return refuse(UNLIKE);
        }
        return port.markOf(i, kind);
    }

    public int age(int i, int year) {
        if (!port.isShip(i) || year < 0 || year > LAST_YEAR) {
            return BAD;
        }
        return port.ageIn(i, year);
    }

    // ---- 2 deeds

    public int come(int i) {
        return moved(i, true);
    }

    public int leave(int i) {
        return moved(i, false);
    }

    public int pay(int i) {
        if (!port.isShip(i)) {
            return BAD;
        }
        if (!port.isOf(i, GHOST)) {
            return refuse(UNLIKE);
        }
        return port.hasPaid(i) ? STATE : port.doDeed(PAYMENT, i);
    }

    public int tea(int i) {
        if (!port.isShip(i)) {
            return BAD;
        }
        return port.tea[i] >= MOST_TEA ? STATE : port.doDeed(TEATIME, i);
    }

    public int tide() {
        return port.isEmpty() ? STATE : port.doDeed(TIDE, 0);
    }

    public int year() {
        return port.isEmpty() || port.year >= LAST_YEAR ? STATE : port.doDeed(YEAR, 0);
    }

    public int undo(int n) {
        int before = port.done;
        if (n < 0 || n > before) {
            return BAD;
        }
        port.replay(port.deeds, n);
        return before - n;
    }

    public int keep(int k) {
        if (!kept.isNumber(k)) {
            return BAD;
        }
        if (port.isEmpty()) {
            return STATE;
        }
        kept.make(k, port.done, 0);
        System.arraycopy(port.deeds, 0, kept.places[k], 0, port.done);
        return port.done;
    }

    public int on(int k) {
        int refusal = refusalOfSheet(kept, k);
        if (refusal != 0) {
            return refusal;
        }
        port.replay(kept.places[k], kept.sizes[k]);
        return port.done;
    }

    // ---- 3 who lies where

    public int berths(int r) {
        if (!rows.isNumber(r)) {
            return BAD;
        }
        if (port.isEmpty()) {
            return STATE;
        }
        int many = Integer.bitCount(port.in);
        rows.make(r, many, 0);
        for (int i = 0; i < port.fleet.ships; i++) {
            if (port.isIn(i)) {
                rows.set(r, port.berthNow(i), i);
            }
        }
        return many;
    }

    public int hours(int i) {
        return port.isShip(i) ? 1 + port.shiftedBy(i) : BAD;
    }

    public int ground() {
        if (port.isEmpty()) {
            return STATE;
        }
        int sum = 0;
        for (int i = 0; i < port.fleet.ships; i++) {
            sum += port.tooDeepBy(i);
        }
        told = sum;
        return port.tooDeep();
    }

    // ---- 4 those outside come in

    public int enter(int r) {
        if (!rows.isNumber(r)) {
            return BAD;
        }
        if (port.isEmpty()) {
            return STATE;
        }
        if (!queue.findBest()) {
            return NONE;
        }
        rows.make(r, queue.bestSize, 0);
        for (int i = 0; i < queue.bestSize; i++) {
            rows.set(r, i, queue.best[i]);
        }
        told = queue.bestShifted;
        return queue.bestTides;
    }

    public int order(int r) {
        int refusal = refusalOfShips(r, ~port.in);
        if (refusal != 0) {
            return refusal;
        }
        queue.begin();
        for (int i = 0; i < rows.sizes[r]; i++) {
            if (!queue.takes(rows.places[r][i])) {
                return NONE;
            }
        }
        told = queue.shifted;
        return queue.tides;
    }

    // ---- 5 years, papers

    public int when(int i, int k) {
        if (!port.isShip(i) || !isBerth(k)) {
            return BAD;
        }
        for (int years = 0; years <= YEARS_ON; years++) {
            int then = port.year + years;
            if (port.berthIn(then, i, port.ageIn(i, then)) == k) {
                return years;
            }
        }
        return NONE;
    }

    public int built(int i, int k) {
        if (!port.isShip(i) || !isBerth(k)) {
            return BAD;
        }
        int many = 0;
        int first = 0;
        for (int b = LAST_BUILT; b >= 0; b--) {
            if (port.berthIn(port.year, i, port.ageIfBuilt(i, b)) == k) {
                many++;
                first = b;
            }
        }
        if (many == 0) {
            return NONE;
        }
        told = first;
        return many;
    }

    public int least(int i, int k) {
        if (!port.isShip(i) || !isBerth(k)) {
            return BAD;
        }
        for (int more = 0; more <= MOST_MORE_TEA; more++) {
            if (port.berthIn(port.year, i, port.ageWithTea(i, more)) <= k) {
                return more;
            }
        }
        return NONE;
    }

    public int wrong(int r) {
        int refusal = refusalOfShips(r, port.in);
        if (refusal != 0) {
            return refusal;
        }
        int pairs = 0;
        int ships = 0;
        int nearer = 0;
        for (int i = 0; i < rows.sizes[r]; i++) {
            int one = rows.places[r][i];
            int misplaced = nearer & ~port.ahead[one];
            if (misplaced != 0) {
                pairs += Integer.bitCount(misplaced);
                ships |= misplaced | 1 << one;
            }
            nearer |= 1 << one;
        }
        told = ships;
        return pairs;
    }

    // ---- 6 who one is

    public int kinds(int i, int r) {
        int refusal = refusalOfPairs(i, r);
        return refusal != 0 ? refusal : possibleKinds(i, r);
    }

    public int test(int i, int r) {
        int refusal = refusalOfPairs(i, r);
        if (refusal != 0) {
            return refusal;
        }
        int set = possibleKinds(i, r);
        if (set == 0) {
            return NONE;
        }
        int best = 0;
        int least = KINDS + 1;
        for (int years = 0; years <= YEARS_ON; years++) {
            int part = port.greatestPart(i, set, port.year + years);
            if (part < least) {
                least = part;
                best = years;
            }
        }
        told = least;
        return best;
    }

    // ---- 7 by turns

    public int duel(int n) {
        if (n < 0 || n > MOST_TURNS) {
            return BAD;
        }
        return port.isEmpty() ? STATE : DUEL_MORE + match.outcome(n);
    }

    // ---- 8 chances, lots

    public int odds(int i, int k, int p) {
        if (!port.isShip(i) || !isBerth(k) || !isOfTwelve(p)) {
            return BAD;
        }
        chance.tellNearer(port.berthNow(i), k, p);
        return 1;
    }

    public int mid(int i, int p) {
        if (!port.isShip(i) || !isOfTwelve(p)) {
            return BAD;
        }
        chance.tellMean(port.berthNow(i), p);
        return 1;
    }

    public int lots(int n, int seed) {
        if (n < 1 || n > MOST_LOTS || seed < 1 || seed >= LOT_MODULUS) {
            return BAD;
        }
        int ships = port.fleet.ships;
        if (ships <= 0) {
            return STATE;
        }
        if (port.done + n > MOST_DEEDS) {
            return FULL;
        }
        long lot = seed;
        for (int deed = 0; deed < n; deed++) {
            lot = lot * LOT_FACTOR % LOT_MODULUS;
            int one = (int) (lot / 8 % ships);
            port.doDeed(port.hasHoursFor(one) ? MOVE : TIDE, one);
        }
        return port.in;
    }

    // ---- 9 what is told

    public int asked() {
        return told;
    }

    public long upper() {
        return chance.over;
    }

    public long lower() {
        return chance.under;
    }

    public int count(int what) {
        return what < 0 || what >= COUNTS ? BAD : counted(what);
    }

    public int finding() {
        return latestFinding;
    }

    public int findings(int f) {
        return f < 1 || f > FINDINGS ? BAD : timesFound[f];
    }

    public long digest() {
        long h = 17;
        for (int what = 0; what < COUNTS; what++) {
            h = 31 * h + counted(what);
        }
        for (int i = 0; i < port.fleet.ships; i++) {
            for (int what = 0; what < SHIP_FACTS; what++) {
                h = 31 * h + port.fact(i, what);
            }
        }
        for (int k = 0; k < KEPT; k++) {
            h = 31 * h + kept.sizes[k];
        }
        return texts.digestFrom(rows.digestFrom(h));
    }

    // ---- what the calls share

    private int refuse(int finding) {
        if (finding >= 1 && finding <= FINDINGS) {
            latestFinding = finding;
            timesFound[finding]++;
        }
        return FINDING;
    }

    /** Why there is no such sheet; 0 if there is. */
    private int refusalOfSheet(Sheets sheets, int s) {
        if (!sheets.isNumber(s)) {
            return BAD;
        }
        return sheets.isThere(s) ? 0 : refuse(NOTHING);
    }

    /** Why there is no such place of a sheet; 0 if there is. */
    private int refusalOfPlace(Sheets sheets, int s, int i) {
        int refusal = refusalOfSheet(sheets, s);
        if (refusal != 0) {
            return refusal;
        }
        return sheets.isPlace(s, i) ? 0 : refuse(BEYOND);
    }

    private int laidOut(Sheets sheets, int s, int n, int v) {
        if (!sheets.isNumber(s) || n > sheets.most) {
            return BAD;
        }
        if (n < 0) {
            return refuse(SIZE);
        }
        sheets.make(s, n, v);
        return n;
    }

    private int moved(int i, boolean inwards) {
        if (!port.isShip(i)) {
            return BAD;
        }
        if (port.isIn(i) == inwards) {
            return STATE;
        }
        return port.hasHoursFor(i) ? port.doDeed(MOVE, i) : SPENT;
    }

    private static boolean isBerth(int k) {
        return k >= 0 && k < MOST_SHIPS;
    }

    private static boolean isOfTwelve(int p) {
        return p >= 0 && p <= OF_TWELVE;
    }

    /** Why a row does not tell ships of a set (bits), each once at most; 0 if it does. */
    private int refusalOfShips(int r, int set) {
        if (!rows.isNumber(r)) {
            return BAD;
        }
        if (port.isEmpty()) {
            return STATE;
        }
        if (!rows.isThere(r)) {
            return refuse(NOTHING);
        }
        int open = set;
        for (int i = 0; i < rows.sizes[r]; i++) {
            int one = rows.places[r][i];
            if (!port.isShip(one) || (open >> one & 1) == 0) {
                return refuse(UNLIKE);
            }
            open &= ~(1 << one);
        }
        return 0;
    }

    /** Why a ship and a row of years and ages are not as told; 0 if they are. */
    private int refusalOfPairs(int i, int r) {
        if (!port.isShip(i)) {
            return BAD;
        }
        int refusal = refusalOfSheet(rows, r);
        if (refusal != 0) {
            return refusal;
        }
        int size = rows.sizes[r];
        if (size % 2 != 0) {
            return refuse(SIZE);
        }
        for (int p = 0; p < size; p++) {
            int v = rows.places[r][p];
            if (v < 0 || v > (p % 2 == 0 ? LAST_YEAR : GREATEST_AGE)) {
                return refuse(UNLIKE);
            }
        }
        return 0;
    }

    private int possibleKinds(int i, int r) {
        int set = 0;
        for (int kind = 0; kind < KINDS; kind++) {
            if (fitsPairs(i, kind, r)) {
                set |= 1 << kind;
            }
        }
        return set;
    }

    private boolean fitsPairs(int i, int kind, int r) {
        for (int p = 0; p + 1 < rows.sizes[r]; p += 2) {
            if (port.ageAs(i, kind, rows.places[r][p]) != rows.places[r][p + 1]) {
                return false;
            }
        }
        return true;
    }

    private int counted(int what) {
        switch (what) {
            case 0: return port.fleet.ships;
            case 1: return port.year;
            case 2: return port.done;
            case 3: return port.left;
            case 4: return port.in;
            case 5: return port.shifted;
            case 6: return port.allAground();
            case 7: return port.bells();
            case 8: return rows.howMany();
            case 9: return texts.howMany();
            default: return kept.howMany();
        }
    }

    /** Numbered sheets of numbers (rows, texts, kept deeds), each there or missing. */
    private static final class Sheets {
        final int many;
        final int most;
        final int[] sizes;
        final int[][] places;

        Sheets(int many, int most) {
            this.many = Math.max(0, many);
            this.most = Math.max(0, most);
            sizes = new int[this.many];
            places = new int[this.many][this.most];
            Arrays.fill(sizes, MISSING);
        }

        boolean isNumber(int s) {
            return s >= 0 && s < many;
        }

        boolean isThere(int s) {
            return isNumber(s) && sizes[s] != MISSING;
        }

        boolean isPlace(int s, int i) {
            return isThere(s) && i >= 0 && i < sizes[s];
        }

        boolean hasPlaces(int s, int from, int n) {
            // A difference, as the sum of two great numbers would wrap around.
            return isThere(s) && from >= 0 && n >= 0 && from <= sizes[s] && n <= sizes[s] - from;
        }

        int get(int s, int i, int otherwise) {
            return isPlace(s, i) ? places[s][i] : otherwise;
        }

        void set(int s, int i, int v) {
            if (isPlace(s, i)) {
                places[s][i] = v;
            }
        }

        void make(int s, int n, int v) {
            if (isNumber(s) && n >= 0 && n <= most) {
                sizes[s] = n;
                Arrays.fill(places[s], v);
            }
        }

        void drop(int s) {
            if (isNumber(s)) {
                sizes[s] = MISSING;
            }
        }

        int howMany() {
            int there = 0;
            for (int s = 0; s < many; s++) {
                there += sizes[s] == MISSING ? 0 : 1;
            }
            return there;
        }

        long digestFrom(long before) {
            long h = before;
            for (int s = 0; s < many; s++) {
                h = 31 * h + sizes[s];
                for (int i = 0; i < sizes[s]; i++) {
                    h = 31 * h + places[s][i];
                }
            }
            return h;
        }
    }

    /** What the text of a harbour tells. */
    private static final class Fleet {
        final int[] kind = new int[MOST_SHIPS];
        final int[] built = new int[MOST_SHIPS];
        final int[] captain = new int[MOST_SHIPS];
        final int[] rat = new int[MOST_SHIPS];
        final int[] draught = new int[MOST_SHIPS];
        int ships = 0;
        int firstYear = 0;
        int hoursOfTide = 0;
        // Reading stops where it can't go on, so this is the fault's place, if there is one.
        private int place = 0;

        /** Reads a text: the place of its fault, or NONE. */
        int read(int[] signs, int size) {
            place = 0;
            ships = 0;
            skipBlanks(signs, size);
            if (!readHead(signs, size)) {
                return place;
            }
            skipBlanks(signs, size);
            // One round more than there may be ships, so that a seventh one is met.
            for (int round = 0; round <= MOST_SHIPS && place < size; round++) {
                if (!readShip(signs, size)) {
                    return place;
                }
                skipBlanks(signs, size);
            }
            return ships == 0 ? place : NONE;
        }

        private void skipBlanks(int[] signs, int size) {
            for (int n = 0; n < size && signHere(signs, size) == BLANK; n++) {
                place++;
            }
        }

        private int signHere(int[] signs, int size) {
            return place >= 0 && place < size && place < signs.length ? signs[place] : NO_SIGN;
        }

        private boolean readHead(int[] signs, int size) {
            if (signHere(signs, size) != HARBOUR_SIGN) {
                return false;
            }
            place++;
            firstYear = readTwoFigures(signs, size);
            if (firstYear < 0) {
                return false;
            }
            hoursOfTide = readFigure(signs, size, 1);
            return hoursOfTide > 0;
        }

        private boolean readShip(int[] signs, int size) {
            int next = kindOf(signHere(signs, size));
            if (next < 0 || ships < 0 || ships >= MOST_SHIPS) {
                return false;
            }
            place++;
            kind[ships] = next;
            built[ships] = readTwoFigures(signs, size);
            if (built[ships] < 0) {
                return false;
            }
            captain[ships] = readFigure(signs, size, 0);
            if (captain[ships] < 0) {
                return false;
            }
            rat[ships] = readFigure(signs, size, 0);
            if (rat[ships] < 0) {
                return false;
            }
            draught[ships] = readFigure(signs, size, 0);
            if (draught[ships] < 0) {
                return false;
            }
            ships++;
            return true;
        }

        /** The two figures' number, or -1. */
        private int readTwoFigures(int[] signs, int size) {
            int tens = readFigure(signs, size, 0);
            int ones = tens < 0 ? -1 : readFigure(signs, size, 0);
            return ones < 0 ? -1 : 10 * tens + ones;
        }

        /** The figure, or -1 (and reading stays at its place). */
        private int readFigure(int[] signs, int size, int least) {
            int sign = signHere(signs, size);
            if (sign < NOUGHT_SIGN + least || sign > NINE_SIGN) {
                return -1;
            }
            place++;
            return sign - NOUGHT_SIGN;
        }

        private static int kindOf(int sign) {
            for (int k = 0; k < LETTERS.length; k++) {
                if (LETTERS[k] == sign) {
                    return k;
                }
            }
            return -1;
        }
    }

    /** The harbour as it is now: what the fleet's text tells, and the deeds since. */
    private static final class Harbour {
        final Fleet fleet = new Fleet();
        final int[] tea = new int[MOST_SHIPS];
        final int[] aground = new int[MOST_SHIPS];
        final int[] deeds = new int[MOST_DEEDS];
        // Both are asked for far more often than they change: kept by settle().
        final int[] ages = new int[MOST_SHIPS];
        final int[] ahead = new int[MOST_SHIPS];
        int done = 0;
        int year = 0;
        int left = 0;
        int in = 0;
        int paid = 0;
        int shifted = 0;

        void begin() {
            Arrays.fill(tea, 0);
            Arrays.fill(aground, 0);
            done = 0;
            year = fleet.firstYear;
            left = fleet.hoursOfTide;
            in = 0;
            paid = 0;
            shifted = 0;
            settle();
        }

        /** Ages, and of each ship the others (bits, in or not) that are ahead of her. */
        private void settle() {
            for (int i = 0; i < fleet.ships; i++) {
                ages[i] = ageAs(i, fleet.kind[i], year);
            }
            for (int i = 0; i < fleet.ships; i++) {
                ahead[i] = 0;
                for (int j = 0; j < fleet.ships; j++) {
                    if (j != i && isAhead(j, ages[j], i, ages[i])) {
                        ahead[i] |= 1 << j;
                    }
                }
            }
        }

        /**
         * All state comes from the deeds, so doing the first n of them anew leads back to it. The log may be the
         * harbour's own: each deed is written again where it was read.
         */
        void replay(int[] log, int n) {
            begin();
            for (int d = 0; d < n && d < log.length; d++) {
                doDeed(log[d] / MOST_SHIPS, log[d] % MOST_SHIPS);
            }
        }

        /** Does a deed and answers what the document asks of it; FULL if there are too many. */
        int doDeed(int what, int i) {
            if (done < 0 || done >= MOST_DEEDS) {
                return FULL;
            }
            deeds[done] = what * MOST_SHIPS + i;
            done++;
            switch (what) {
                case MOVE:
                    return move(i);
                case PAYMENT:
                    paid |= 1 << i;
                    settle();
                    return ages[i];
                case TEATIME:
                    tea[i] += CUP;
                    settle();
                    return ages[i];
                case TIDE:
                    left = fleet.hoursOfTide;
                    return runAground(tooDeep());
                default:
                    year++;
                    settle();
                    return year;
            }
        }

        private int move(int i) {
            int others = shiftedBy(i);
            in ^= 1 << i;
            left -= 1 + others;
            shifted += others;
            return others;
        }

        private int runAground(int bits) {
            for (int i = 0; i < fleet.ships; i++) {
                aground[i] += bits >> i & 1;
            }
            return bits;
        }

        boolean isEmpty() {
            return fleet.ships == 0;
        }

        boolean isShip(int i) {
            return i >= 0 && i < fleet.ships && i < MOST_SHIPS;
        }

        boolean isIn(int i) {
            return (in >> i & 1) == 1;
        }

        boolean hasPaid(int i) {
            return (paid >> i & 1) == 1;
        }

        boolean isOf(int i, int kind) {
            return kind == SHIP || fleet.kind[i] == kind || KIND_ABOVE[fleet.kind[i]] == kind;
        }

        boolean hasHoursFor(int i) {
            return 1 + shiftedBy(i) <= left;
        }

        int ageIn(int i, int inYear) {
            return ageAs(i, fleet.kind[i], inYear);
        }

        int ageAs(int i, int kind, int inYear) {
            return ageBy(kind, past(fleet.built[i], inYear), tea[i], hasPaid(i));
        }

        int ageIfBuilt(int i, int built) {
            return ageBy(fleet.kind[i], past(built, year), tea[i], hasPaid(i));
        }

        int ageWithTea(int i, int more) {
            return ageBy(fleet.kind[i], past(fleet.built[i], year), tea[i] + more, hasPaid(i));
        }

        private static int past(int built, int inYear) {
            return Math.max(0, inYear - built);
        }

        private static int ageBy(int kind, int old, int tea, boolean paid) {
            switch (kind) {
                case BELL:
                    return old + tea + BELL_YEARS;
                case PRIZE:
                    return old / 2 + tea;
                case RAFT:
                    return Math.max(RAFT_AGE, old + tea);
                case FORGED:
                    return old + tea + BELL_YEARS + FORGED_YEARS;
                case GHOST:
                    return paid ? Math.max(RAFT_AGE, old + tea) : 0;
                default:
                    return old + tea;
            }
        }

        private boolean isAhead(int a, int ageOfA, int b, int ageOfB) {
            if (ageOfA != ageOfB) {
                return ageOfA > ageOfB;
            }
            if (fleet.captain[a] != fleet.captain[b]) {
                return fleet.captain[a] > fleet.captain[b];
            }
            if (fleet.rat[a] != fleet.rat[b]) {
                return fleet.rat[a] > fleet.rat[b];
            }
            return a < b;
        }

        /** Ships else (bits, in or not) ahead of one in a year, were her age then as given. */
        private int aheadIn(int inYear, int i, int age) {
            int bits = 0;
            for (int j = 0; j < fleet.ships; j++) {
                if (j != i && isAhead(j, ageIn(j, inYear), i, age)) {
                    bits |= 1 << j;
                }
            }
            return bits;
        }

        /** Her berth in a year, as if she was in, were her age then as given. */
        int berthIn(int inYear, int i, int age) {
            return Integer.bitCount(in & aheadIn(inYear, i, age));
        }

        int berthNow(int i) {
            return Integer.bitCount(in & ahead[i]);
        }

        int shiftedBy(int i) {
            return Integer.bitCount(in & ~ahead[i] & ~(1 << i));
        }

        /** By how much her draught is too much for her berth; 0 outside, too. */
        int tooDeepBy(int i) {
            return isIn(i) ? Math.max(0, fleet.draught[i] - berthNow(i) - SHALLOWEST) : 0;
        }

        int tooDeep() {
            int bits = 0;
            for (int i = 0; i < fleet.ships; i++) {
                if (tooDeepBy(i) > 0) {
                    bits |= 1 << i;
                }
            }
            return bits;
        }

        int allAground() {
            int sum = 0;
            for (int i = 0; i < fleet.ships; i++) {
                sum += aground[i];
            }
            return sum;
        }

        int bells() {
            int many = 0;
            for (int i = 0; i < fleet.ships; i++) {
                many += isOf(i, BELL) ? 1 : 0;
            }
            return many;
        }

        int fact(int i, int what) {
            switch (what) {
                case 0: return fleet.kind[i];
                case 1: return fleet.built[i];
                case 2: return fleet.captain[i];
                case 3: return fleet.rat[i];
                case 4: return fleet.draught[i];
                case 5: return tea[i];
                case 6: return ages[i];
                case 7: return isIn(i) ? berthNow(i) : NONE;
                default: return aground[i];
            }
        }

        int markOf(int i, int kind) {
            int plain = ageAs(i, SHIP, year);
            switch (kind) {
                case BELL:
                    return ages[i] - plain;
                case PRIZE:
                    return plain - ages[i];
                case RAFT:
                    return Integer.bitCount(ahead[i]);
                case FORGED:
                    return Integer.bitCount(aheadIn(year, i, ageAs(i, BELL, year)) & ~ahead[i]);
                default:
                    return hasPaid(i) ? 1 : 0;
            }
        }

        /** How many kinds of a set at most have one age, were the ship of them, in a year. */
        int greatestPart(int i, int set, int inYear) {
            int greatest = 0;
            for (int kind = 0; kind < KINDS; kind++) {
                if ((set >> kind & 1) == 1) {
                    greatest = Math.max(greatest, alike(i, set, inYear, ageAs(i, kind, inYear)));
                }
            }
            return greatest;
        }

        private int alike(int i, int set, int inYear, int age) {
            int many = 0;
            for (int kind = 0; kind < KINDS; kind++) {
                if ((set >> kind & 1) == 1 && ageAs(i, kind, inYear) == age) {
                    many++;
                }
            }
            return many;
        }
    }

    /** Ships that come in one behind the other, a tide passing wherever it must. */
    private static final class Queue {
        final Harbour port;
        final int[] path = new int[MOST_SHIPS];
        final int[] best = new int[MOST_SHIPS];
        int in = 0;
        int left = 0;
        int tides = 0;
        int shifted = 0;
        boolean hasBest = false;
        int bestSize = 0;
        int bestTides = 0;
        int bestShifted = 0;

        Queue(Harbour port) {
            this.port = port;
        }

        void begin() {
            in = port.in;
            left = port.left;
            tides = 0;
            shifted = 0;
        }

        /** Whether the ship could come in at all; she has, then. */
        boolean takes(int i) {
            int others = Integer.bitCount(in & ~port.ahead[i]);
            int hours = 1 + others;
            if (hours > port.fleet.hoursOfTide) {
                return false;
            }
            if (hours > left) {
                tides++;
                left = port.fleet.hoursOfTide;
            }
            left -= hours;
            shifted += others;
            in |= 1 << i;
            return true;
        }

        /** Whether all who are outside can come in; the best order for it stands in best, then. */
        boolean findBest() {
            begin();
            hasBest = false;
            seek(0);
            return hasBest;
        }

        /** Tries the orders in rising succession, so that of like ones the first stays the best. */
        private void seek(int depth) {
            if (depth < 0 || depth > MOST_SHIPS || hasBest && !isBetter()) {
                return;
            }
            if (in == (1 << port.fleet.ships) - 1) {
                keepPath(depth);
                return;
            }
            for (int i = 0; i < port.fleet.ships; i++) {
                if ((in >> i & 1) == 0) {
                    seekBehind(i, depth);
                }
            }
        }

        private void seekBehind(int i, int depth) {
            if (depth >= MOST_SHIPS) {
                return;
            }
            int inBefore = in;
            int leftBefore = left;
            int tidesBefore = tides;
            int shiftedBefore = shifted;
            path[depth] = i;
            if (takes(i)) {
                seek(depth + 1);
            }
            in = inBefore;
            left = leftBefore;
            tides = tidesBefore;
            shifted = shiftedBefore;
        }

        private boolean isBetter() {
            return tides < bestTides || tides == bestTides && shifted < bestShifted;
        }

        private void keepPath(int size) {
            hasBest = true;
            bestSize = size;
            bestTides = tides;
            bestShifted = shifted;
            System.arraycopy(path, 0, best, 0, size);
        }
    }

    /** Two owners' turns, thought through from the last one back for every set of ships in. */
    private static final class Match {
        final Harbour port;
        final int[] worth = new int[1 << MOST_SHIPS];
        final int[] worthThen = new int[1 << MOST_SHIPS];

        Match(Harbour port) {
            this.port = port;
        }

        int outcome(int turns) {
            int sets = 1 << port.fleet.ships;
            for (int set = 0; set < sets; set++) {
                worth[set] = worthAtEnd(set);
            }
            for (int turn = turns - 1; turn >= 0; turn--) {
                System.arraycopy(worth, 0, worthThen, 0, sets);
                for (int set = 0; set < sets; set++) {
                    worth[set] = worthBefore(set, turn % 2);
                }
            }
            return worth[port.in];
        }

        private int worthAtEnd(int set) {
            int sum = 0;
            for (int i = 0; i < port.fleet.ships; i++) {
                if ((set >> i & 1) == 1) {
                    int berth = Integer.bitCount(set & port.ahead[i]);
                    sum += i % 2 == 1 ? berth : -berth;
                }
            }
            return sum;
        }

        private int worthBefore(int set, int owner) {
            int best = worthThen[set];
            for (int i = owner; i < port.fleet.ships; i += 2) {
                int moved = worthThen[set ^ 1 << i];
                best = owner == 0 ? Math.max(best, moved) : Math.min(best, moved);
            }
            return best;
        }
    }

    /** What a gale leaves: of those ahead of a ship each one sinks by p of 12, by itself. */
    private static final class Chance {
        // In how many of 12 to the power of those ahead ways 0, 1, .. of them stay.
        final long[] staying = new long[MOST_SHIPS];
        long over = 0;
        long under = 1;

        /** The chance that at most k of those ahead stay. */
        void tellNearer(int those, int k, int p) {
            spread(those, p);
            long ways = 0;
            for (int stay = 0; stay <= k && stay < MOST_SHIPS; stay++) {
                ways += staying[stay];
            }
            long all = 1;
            for (int one = 0; one < those; one++) {
                all *= OF_TWELVE;
            }
            tellInLowestTerms(ways, all);
        }

        void tellMean(int those, int p) {
            tellInLowestTerms((long) those * (OF_TWELVE - p), OF_TWELVE);
        }

        private void spread(int those, int p) {
            Arrays.fill(staying, 0);
            staying[0] = 1;
            for (int one = 0; one < those; one++) {
                for (int stay = MOST_SHIPS - 1; stay > 0; stay--) {
                    staying[stay] = staying[stay] * p + staying[stay - 1] * (OF_TWELVE - p);
                }
                staying[0] *= p;
            }
        }

        private void tellInLowestTerms(long top, long bottom) {
            long common = commonDivisor(top, bottom);
            if (common > 0) {
                over = top / common;
                under = bottom / common;
            }
        }

        private static long commonDivisor(long a, long b) {
            long greater = a;
            long lesser = b;
            // Euclid's steps for numbers up to 12 to the power of 5 are far fewer than this.
            for (int step = 0; step < 1000 && lesser != 0; step++) {
                long rest = greater % lesser;
                greater = lesser;
                lesser = rest;
            }
            return greater;
        }
    }
}
