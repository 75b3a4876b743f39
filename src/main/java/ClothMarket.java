/**
 * A desert market beneath one awning that its buyers carry.
 * Capital words (ROW, STALL, THE CLOTH ..) are those of the document.
 */
public final class ClothMarket {
    public static final int BAD = -1, FULL = -2, FINDING = -3, STATE = -4, SPENT = -6, NONE = -9;

    private static final int NOTHING = 1, BEYOND = 2, UNLIKE = 3, NOUGHT = 4, SIZE = 5;
    private static final int ROWS = 6, ROW_LIMIT = 40, TEXTS = 4, TEXT_LIMIT = 80, PLACES_KEPT = 3;
    private static final int SPOTS = 20, SWEETS = 3, NO_GOOD = 4, WANTS = 5, MOST = 6, IN_SET = 5;
    private static final int RICH = 1, BORED = 2, CHILD = 3, THIEF = 4, PORTER = 5;
    private static final int AT_ONCE = 20, LAST_MINUTE = 60, LONGEST_REST = 200, WEEK = 7;
    private static final int HIGHEST_PRICE = 99, FACTS = 4, COUNTS = 9, BYTE_SHIFT = 1000;
    private static final int BLANK = 32, NO_SIGN = -1000;
    private static final long LOT_FACTOR = 48271L, LOT_MODULUS = 2147483647L;

    private final Strip[] rows = new Strip[ROWS];
    private final Strip[] texts = new Strip[TEXTS];
    private final Market present = new Market();
    private final Market[] kept = new Market[PLACES_KEPT];
    private final History history = new History();
    private final Reader reader = new Reader();
    private final Forecast forecast = new Forecast();
    private final Tracker tracker = new Tracker();
    private final int[] findingCounts = new int[SIZE + 1];
    private int latestFinding;
    private int told;

    public ClothMarket() {
        for (int r = 0; r < ROWS; r++) {
            rows[r] = new Strip(ROW_LIMIT);
        }
        for (int t = 0; t < TEXTS; t++) {
            texts[t] = new Strip(TEXT_LIMIT);
        }
        for (int k = 0; k < PLACES_KEPT; k++) {
            kept[k] = new Market();
        }
    }

    // ---- 1 rows, texts, markets

    public int row(int r, int n) {
        if (!isWithin(r, ROWS) || n > ROW_LIMIT) {
            return BAD;
        }
        if (n < 0) {
            return refuse(SIZE);
        }
        rows[r].renew(n, 0);
        return n;
    }

    public int lay(int r, int i, int v) {
        if (!isWithin(r, ROWS)) {
            return BAD;
        }
        int missing = missingPlace(rows[r], i);
        if (missing != 0) {
            return refuse(missing);
        }
        return tell(rows[r].exchange(i, v));
    }

    public int at(int r, int i) {
        if (!isWithin(r, ROWS)) {
            return BAD;
        }
        int missing = missingPlace(rows[r], i);
        if (missing != 0) {
            return refuse(missing);
        }
        return tell(rows[r].get(i));
    }

    public int tear(int r) {
        if (!isWithin(r, ROWS)) {
            return BAD;
        }
        if (!rows[r].isThere()) {
            return refuse(NOTHING);
        }
        rows[r].remove();
        return 1;
    }

    public int copy(int r, int i, int to, int j, int n) {
        if (!isWithin(r, ROWS) || !isWithin(to, ROWS)) {
            return BAD;
        }
        if (n < 0) {
            return refuse(SIZE);
        }
        if (!rows[r].isThere() || !rows[to].isThere()) {
            return refuse(NOTHING);
        }
        if (!rows[r].hasPart(i, n) || !rows[to].hasPart(j, n)) {
            return refuse(BEYOND);
        }
        rows[to].takePart(rows[r], i, j, n);
        return 1;
    }

    public int mean(int r) {
        if (!isWithin(r, ROWS)) {
            return BAD;
        }
        int n = rows[r].size();
        if (n < 0) {
            return refuse(NOTHING);
        }
        if (n == 0) {
            return refuse(NOUGHT);
        }
        return tell((int) (rows[r].sum() / n));
    }

    public int text(int t, int n) {
        if (!isWithin(t, TEXTS) || n > TEXT_LIMIT) {
            return BAD;
        }
        if (n < 0) {
            return refuse(SIZE);
        }
        texts[t].renew(n, BLANK);
        return n;
    }

    public int put(int t, int i, int v) {
        if (!isWithin(t, TEXTS)) {
            return BAD;
        }
        int missing = missingPlace(texts[t], i);
        if (missing != 0) {
            return refuse(missing);
        }
        return BYTE_SHIFT + texts[t].exchange(i, (byte) v);
    }

    public int fault(int t) {
        if (!isWithin(t, TEXTS)) {
            return BAD;
        }
        if (!texts[t].isThere()) {
            return refuse(NOTHING);
        }
        return reader.read(texts[t]);
    }

    public int market(int t) {
        if (!isWithin(t, TEXTS)) {
            return BAD;
        }
        if (!texts[t].isThere()) {
            return refuse(NOTHING);
        }
        if (reader.read(texts[t]) != NONE) {
            return STATE;
        }
        present.take(reader.into);
        present.findWays();
        history.beginAt(present.minute);
        for (int k = 0; k < PLACES_KEPT; k++) {
            kept[k].clear();
        }
        return present.buyers;
    }

    public int buyer(int i, int what) {
        if (!isBuyer(i) || !isWithin(what, FACTS)) {
            return BAD;
        }
        return tell(present.factOfBuyer(i, what));
    }

    public int stall(int k, int what) {
        if (!isStall(k) || !isWithin(what, FACTS)) {
            return BAD;
        }
        return tell(present.factOfStall(k, what));
    }

    public int mark(int i, int kind) {
        if (!isBuyer(i) || kind < RICH || kind > PORTER) {
            return BAD;
        }
        if (!present.isOfKind(i, kind)) {
            return refuse(UNLIKE);
        }
        switch (kind) {
            case RICH:
                return present.takenAlongRight(i);
            case BORED:
                return present.neighboursApart(i);
            case CHILD:
                return present.farToNearest(present.spot[i], 1 << SWEETS);
            case THIEF:
                return present.stallsInReach(i);
            default:
                return present.farToNearest(present.spot[i], 1 << present.want[i]);
        }
    }

    public int want(int i, int good) {
        if (!isBuyer(i) || !isWithin(good, WANTS)) {
            return BAD;
        }
        int old = present.want[i];
        present.want[i] = good;
        return old;
    }

    public int price(int k, int v) {
        if (!isStall(k) || v < 0 || v > HIGHEST_PRICE) {
            return BAD;
        }
        int old = present.stallPrice[k];
        present.stallPrice[k] = v;
        return old;
    }

    public int wish(int i) {
        if (!isBuyer(i)) {
            return BAD;
        }
        return tell(present.wayOf(i));
    }

    // ---- 2 minutes

    public int minutes(int n) {
        if (!isUpTo(n, AT_ONCE)) {
            return BAD;
        }
        if (present.buyers == 0) {
            return STATE;
        }
        if (present.minute + n > LAST_MINUTE) {
            return FULL;
        }
        int sales = 0;
        for (int m = 0; m < n; m++) {
            history.save(present);
            sales += present.passMinute(0);
        }
        return sales;
    }

    public int undo(int n) {
        if (n < history.first() || n > present.minute) {
            return BAD;
        }
        int undone = present.minute - n;
        if (undone > 0) {
            history.goBack(present, n);
        }
        return undone;
    }

    public int turn(int way) {
        if (way != 0 && way != 1) {
            return BAD;
        }
        if (present.buyers == 0) {
            return STATE;
        }
        return present.shiftAll(way == 0 ? -1 : 1) ? 1 : 0;
    }

    public int shade() {
        if (present.buyers == 0) {
            return STATE;
        }
        told = present.spot[0] + present.sun();
        return present.lastSpot() - present.spot[0] + 1;
    }

    public int shaded() {
        return present.stallsShaded(present.sun());
    }

    public int keep(int k) {
        if (!isWithin(k, PLACES_KEPT)) {
            return BAD;
        }
        if (present.buyers == 0) {
            return STATE;
        }
        kept[k].take(present);
        return present.minute;
    }

    public int on(int k) {
        if (!isWithin(k, PLACES_KEPT)) {
            return BAD;
        }
        if (!isKept(k)) {
            return refuse(NOTHING);
        }
        present.take(kept[k]);
        history.beginAt(present.minute);
        return present.minute;
    }

    // ---- 3 what will be

    public int when(int i) {
        if (!isBuyer(i)) {
            return BAD;
        }
        int answer = forecast.firstSaleTo(present, i);
        if (answer != NONE) {
            told = forecast.besides;
        }
        return answer;
    }

    public int bought(int n) {
        if (!isUpTo(n, LAST_MINUTE)) {
            return BAD;
        }
        int answer = forecast.sales(present, n);
        told = forecast.besides;
        return answer;
    }

    public int rest() {
        if (present.buyers == 0) {
            return STATE;
        }
        int answer = forecast.firstRest(present);
        if (answer != NONE) {
            told = forecast.besides;
        }
        return answer;
    }

    public int track(int n, int r) {
        if (!isUpTo(n, LAST_MINUTE) || !isWithin(r, ROWS)) {
            return BAD;
        }
        return tell(forecast.spotsAfter(present, n, rows[r]));
    }

    // ---- 4 what is best

    public int best(int n, int r) {
        if (!isUpTo(n, AT_ONCE) || !isWithin(r, ROWS)) {
            return BAD;
        }
        if (present.buyers == 0) {
            return STATE;
        }
        return forecast.bestOrder(present, n, rows[r]);
    }

    public int spot(int k, int n) {
        if (!isStall(k) || !isUpTo(n, AT_ONCE)) {
            return BAD;
        }
        if (present.buyers == 0) {
            return STATE;
        }
        int answer = forecast.bestPlace(present, k, n);
        told = forecast.besides;
        return answer;
    }

    public int missed(int n) {
        if (!isUpTo(n, AT_ONCE)) {
            return BAD;
        }
        if (present.buyers == 0) {
            return STATE;
        }
        int answer = forecast.leastMissed(present, n);
        told = forecast.besides;
        return answer;
    }

    public int fewest() {
        if (present.buyers == 0) {
            return STATE;
        }
        told = present.fewestHolders();
        return Integer.bitCount(told);
    }

    public int turns() {
        if (present.buyers == 0) {
            return STATE;
        }
        int shift = present.bestShift();
        told = Integer.bitCount(present.stallsShaded(present.sun() + shift));
        return Math.abs(shift);
    }

    // ---- 5 tracks

    public int fits(int set, int n, int r) {
        if (!isSetOfBuyers(set) || !isUpTo(n, AT_ONCE) || !isWithin(r, ROWS)) {
            return BAD;
        }
        int refused = refuseTrack(set, rows[r]);
        if (refused != 0) {
            return refused;
        }
        tracker.seek(present, set, n, rows[r]);
        told = tracker.first;
        return tracker.found;
    }

    public int could(int set, int n, int r, int i) {
        if (!isSetOfBuyers(set) || !isUpTo(n, AT_ONCE) || !isWithin(r, ROWS)) {
            return BAD;
        }
        if (!isWithin(i, MOST) || !isIn(set, i)) {
            return BAD;
        }
        int refused = refuseTrack(set, rows[r]);
        if (refused != 0) {
            return refused;
        }
        tracker.seek(present, set, n, rows[r]);
        return tracker.goods[i];
    }

    // ---- 6 winds

    public int winds(int n, int seed) {
        if (n < 1 || n > LAST_MINUTE || seed < 1 || seed >= LOT_MODULUS) {
            return BAD;
        }
        if (present.buyers == 0) {
            return STATE;
        }
        int answer = forecast.salesInWinds(present, n, seed);
        told = forecast.besides;
        return answer;
    }

    // ---- 7 what is told

    public int asked() {
        return told;
    }

    public long upper() {
        long paid = present.paidByAll();
        long prices = present.pricesOfAll();
        return prices == 0 ? 0 : paid / commonDivisor(prices, paid);
    }

    public long lower() {
        long paid = present.paidByAll();
        long prices = present.pricesOfAll();
        return prices == 0 ? 1 : prices / commonDivisor(prices, paid);
    }

    public int count(int what) {
        return isWithin(what, COUNTS) ? numberOf(what) : BAD;
    }

    public int finding() {
        return latestFinding;
    }

    public int findings(int f) {
        return f < NOTHING || f > SIZE ? BAD : findingCounts[f];
    }

    public long digest() {
        long h = 17;
        for (int what = 0; what < COUNTS; what++) {
            h = 31 * h + numberOf(what);
        }
        h = 31 * h + (present.buyers == 0 ? 0 : present.reach);
        h = present.digestOn(h);
        h = 31 * h + (present.minute - history.first());
        for (int k = 0; k < PLACES_KEPT; k++) {
            h = 31 * h + (isKept(k) ? kept[k].minute : -1);
        }
        for (int r = 0; r < ROWS; r++) {
            h = rows[r].digestOn(h);
        }
        for (int t = 0; t < TEXTS; t++) {
            h = texts[t].digestOn(h);
        }
        return h;
    }

    // ---- what the calls share

    private int refuse(int found) {
        latestFinding = found;
        findingCounts[found]++;
        return FINDING;
    }

    private int tell(int v) {
        told = v;
        return 1;
    }

    private int missingPlace(Strip strip, int i) {
        if (!strip.isThere()) {
            return NOTHING;
        }
        return strip.has(i) ? 0 : BEYOND;
    }

    private int refuseTrack(int set, Strip seen) {
        if (present.buyers == 0) {
            return STATE;
        }
        if (Integer.bitCount(set) > IN_SET) {
            return SPENT;
        }
        if (!seen.isThere()) {
            return refuse(NOTHING);
        }
        if (seen.size() != present.buyers) {
            return refuse(SIZE);
        }
        for (int i = 0; i < present.buyers; i++) {
            if (seen.get(i) != NONE && !isWithin(seen.get(i), SPOTS)) {
                return refuse(UNLIKE);
            }
        }
        return 0;
    }

    private boolean isBuyer(int i) {
        return isWithin(i, present.buyers);
    }

    private boolean isStall(int k) {
        return isWithin(k, present.stalls);
    }

    private boolean isSetOfBuyers(int set) {
        return isWithin(set, 1 << present.buyers);
    }

    // Only a MARKET with BUYERS is ever kept, so an empty one says: missing.
    private boolean isKept(int k) {
        return kept[k].buyers > 0;
    }

    private int numberOf(int what) {
        switch (what) {
            case 0:
                return present.buyers;
            case 1:
                return present.stalls;
            case 2:
                return present.minute;
            case 3:
                return present.howManyOfKind(RICH);
            case 4:
                return present.howManyOfKind(BORED);
            case 5:
                return howManyKept();
            case 6:
                return howManyThere(rows);
            case 7:
                return howManyThere(texts);
            default:
                return present.howManyWant();
        }
    }

    private int howManyKept() {
        int n = 0;
        for (int k = 0; k < PLACES_KEPT; k++) {
            n += isKept(k) ? 1 : 0;
        }
        return n;
    }

    private static int howManyThere(Strip[] strips) {
        int n = 0;
        for (Strip strip : strips) {
            n += strip.isThere() ? 1 : 0;
        }
        return n;
    }

    private static boolean isWithin(int v, int below) {
        return v >= 0 && v < below;
    }

    private static boolean isUpTo(int v, int most) {
        return v >= 0 && v <= most;
    }

    private static boolean isIn(int set, int i) {
        return (set >> i & 1) != 0;
    }

    // At least 1, so that it may divide, whatever a and b are.
    private static long commonDivisor(long a, long b) {
        for (int step = 0; step < 100 && b != 0; step++) {
            long left = a % b;
            a = b;
            b = left;
        }
        return Math.max(a, 1);
    }

    /** A ROW or a TEXT: its places are made once, so that making it anew costs no room. */
    private static final class Strip {
        private static final int MISSING = -1;

        private final int[] places;
        private int size = MISSING;

        Strip(int limit) {
            places = new int[limit];
        }

        int size() {
            return size;
        }

        boolean isThere() {
            return size != MISSING;
        }

        boolean has(int i) {
            return i >= 0 && i < size;
        }

        // Never adds i and n: their sum may wrap around.
        boolean hasPart(int i, int n) {
            return isUpTo(i, size) && isUpTo(n, size - i);
        }

        void renew(int n, int v) {
            size = isUpTo(n, places.length) ? n : 0;
            for (int i = 0; i < size; i++) {
                places[i] = v;
            }
        }

        void remove() {
            size = MISSING;
        }

        int get(int i) {
            return i >= 0 && i < size ? places[i] : NO_SIGN;
        }

        int exchange(int i, int v) {
            int old = get(i);
            if (has(i)) {
                places[i] = v;
            }
            return old;
        }

        void takePart(Strip from, int i, int j, int n) {
            if (from.hasPart(i, n) && hasPart(j, n)) {
                System.arraycopy(from.places, i, places, j, n);
            }
        }

        long sum() {
            long sum = 0;
            for (int i = 0; i < size; i++) {
                sum += places[i];
            }
            return sum;
        }

        long digestOn(long h) {
            h = 31 * h + size;
            for (int i = 0; i < size; i++) {
                h = 31 * h + places[i];
            }
            return h;
        }
    }

    /** STALLS, BUYERS and the MINUTE, and how a MINUTE goes by. */
    private static final class Market {
        private int reach;
        private int minute;
        private int stalls;
        private int buyers;
        private final int[] stallSpot = new int[MOST];
        private final int[] stallGood = new int[MOST];
        private final int[] stallPrice = new int[MOST];
        private final int[] stallSold = new int[MOST];
        private final int[] kind = new int[MOST];
        private final int[] spot = new int[MOST];
        private final int[] want = new int[MOST];
        private final int[] paid = new int[MOST];
        // How far a BUYER may be behind the one ahead.
        private final int[] slack = new int[MOST];
        // THE WISH by want and SPOT, and behind these that of a CHILD: the searches ask for it most.
        private final int[] ways = new int[2 * WANTS * SPOTS];

        void clear() {
            reach = 0;
            minute = 0;
            stalls = 0;
            buyers = 0;
        }

        void addStall(int at, int good, int price) {
            if (stalls < MOST) {
                stallSpot[stalls] = at;
                stallGood[stalls] = good;
                stallPrice[stalls] = price;
                stallSold[stalls] = 0;
                stalls++;
            }
        }

        boolean canAddBuyer(int ofKind, int at) {
            if (buyers == 0 || buyers >= MOST) {
                return buyers == 0;
            }
            int gap = at - spot[buyers - 1];
            return gap > 0 && gap <= slackBehind(buyers - 1, ofKind);
        }

        void addBuyer(int ofKind, int at, int good) {
            if (buyers < MOST) {
                slack[buyers] = buyers == 0 ? SPOTS : slackBehind(buyers - 1, ofKind);
                kind[buyers] = ofKind;
                spot[buyers] = at;
                want[buyers] = good;
                paid[buyers] = 0;
                buyers++;
            }
        }

        private int slackBehind(int ahead, int ofKind) {
            return kind[ahead] == THIEF || ofKind == THIEF ? SPOTS : reach;
        }

        void take(Market other) {
            reach = other.reach;
            stalls = other.stalls;
            buyers = other.buyers;
            System.arraycopy(other.stallSpot, 0, stallSpot, 0, MOST);
            System.arraycopy(other.stallGood, 0, stallGood, 0, MOST);
            System.arraycopy(other.stallPrice, 0, stallPrice, 0, MOST);
            System.arraycopy(other.kind, 0, kind, 0, MOST);
            System.arraycopy(other.slack, 0, slack, 0, MOST);
            System.arraycopy(other.ways, 0, ways, 0, ways.length);
            takeWhatMoves(other);
        }

        // Enough between two trials of one search: STALLS and KINDS stay.
        void takeWhatMoves(Market other) {
            minute = other.minute;
            for (int i = 0; i < MOST; i++) {
                stallSold[i] = other.stallSold[i];
                spot[i] = other.spot[i];
                want[i] = other.want[i];
                paid[i] = other.paid[i];
            }
        }

        void findWays() {
            for (int w = 0; w < WANTS; w++) {
                for (int from = 0; from < SPOTS; from++) {
                    ways[w * SPOTS + from] = wayToNearest(from, 1 << w);
                    ways[(WANTS + w) * SPOTS + from] = wayToNearest(from, 1 << w | 1 << SWEETS);
                }
            }
        }

        private int wayToNearest(int from, int goods) {
            int k = nearestStall(from, goods);
            if (k == NONE || stallSpot[k] == from) {
                return 0;
            }
            return stallSpot[k] < from ? -1 : 1;
        }

        private int nearestStall(int from, int goods) {
            int nearest = NONE;
            for (int k = 0; k < stalls; k++) {
                if (isIn(goods, stallGood[k]) && (nearest == NONE || isNearer(from, k, nearest))) {
                    nearest = k;
                }
            }
            return nearest;
        }

        private boolean isNearer(int from, int k, int than) {
            int far = Math.abs(stallSpot[k] - from);
            int farThan = Math.abs(stallSpot[than] - from);
            return far < farThan || far == farThan && stallSpot[k] < stallSpot[than];
        }

        int farToNearest(int from, int goods) {
            int k = nearestStall(from, goods);
            return k == NONE ? NONE : Math.abs(stallSpot[k] - from);
        }

        int wayOf(int i) {
            int ofKind = kind[i];
            if (ofKind == BORED || ofKind == THIEF) {
                return 0;
            }
            int table = ofKind == CHILD ? WANTS : 0;
            return ways[(table + want[i]) * SPOTS + spot[i]];
        }

        boolean isOfKind(int i, int ofKind) {
            return kind[i] == ofKind || ofKind == RICH && kind[i] == PORTER || ofKind == BORED && kind[i] == THIEF;
        }

        private boolean isRich(int i) {
            return kind[i] == RICH || kind[i] == PORTER;
        }

        int passMinute(int wind) {
            for (int i = 0; i < buyers; i++) {
                if (isRich(i)) {
                    pull(i, wayOf(i));
                    if (kind[i] == PORTER) {
                        pull(i, wayOf(i));
                    }
                }
            }
            for (int i = 0; i < buyers; i++) {
                if (!isRich(i)) {
                    walk(i, wayOf(i));
                }
            }
            minute++;
            return sell(sun() + wind);
        }

        int sun() {
            return minute % WEEK - 3;
        }

        // Whether THE CLOTH is kept between BUYER i and the one ahead, if they go so.
        private boolean holds(int i, int wayAhead, int wayBehind) {
            int gap = spot[i] + wayBehind - spot[i - 1] - wayAhead;
            return gap > 0 && gap <= slack[i];
        }

        private void walk(int i, int way) {
            if (way == 0 || !isWithin(spot[i] + way, SPOTS)) {
                return;
            }
            if (i > 0 && !holds(i, 0, way) || i + 1 < buyers && !holds(i + 1, way, 0)) {
                return;
            }
            spot[i] += way;
        }

        private void pull(int i, int way) {
            if (way == 0) {
                return;
            }
            int from = firstTaken(i, way);
            int to = lastTaken(i, way);
            if (canGo(from, to, way)) {
                for (int j = from; j <= to; j++) {
                    spot[j] += way;
                }
            }
        }

        // SPOTS rise by numbers, so those of the first and the last one tell for all between.
        private boolean canGo(int from, int to, int way) {
            return from != NONE && to != NONE && spot[from] + way >= 0 && spot[to] + way < SPOTS;
        }

        // The first of the BUYERS ahead of i that i takes along (i: nobody); NONE: a RICH one is among them.
        private int firstTaken(int i, int way) {
            int first = i;
            while (first > 0 && !holds(first, 0, way)) {
                first--;
                if (isRich(first)) {
                    return NONE;
                }
            }
            return first;
        }

        private int lastTaken(int i, int way) {
            int last = i;
            while (last + 1 < buyers && !holds(last + 1, way, 0)) {
                last++;
                if (isRich(last)) {
                    return NONE;
                }
            }
            return last;
        }

        int takenAlongRight(int i) {
            int from = firstTaken(i, 1);
            int to = lastTaken(i, 1);
            return canGo(from, to, 1) ? to - from : 0;
        }

        int neighboursApart(int i) {
            return i > 0 && i + 1 < buyers ? spot[i + 1] - spot[i - 1] : 0;
        }

        int stallsInReach(int i) {
            int n = 0;
            for (int k = 0; k < stalls; k++) {
                n += Math.abs(stallSpot[k] - spot[i]) <= reach ? 1 : 0;
            }
            return n;
        }

        private int sell(int moved) {
            int sales = 0;
            for (int i = 0; i < buyers; i++) {
                if (want[i] != NO_GOOD && isShaded(spot[i], moved)) {
                    int k = stallHere(spot[i], want[i]);
                    if (k != NONE) {
                        paid[i] += stallPrice[k];
                        stallSold[k]++;
                        want[i] = NO_GOOD;
                        sales++;
                    }
                }
            }
            return sales;
        }

        int stallHere(int at, int good) {
            for (int k = 0; k < stalls; k++) {
                if (stallSpot[k] == at && stallGood[k] == good) {
                    return k;
                }
            }
            return NONE;
        }

        int lastSpot() {
            return buyers == 0 ? 0 : spot[buyers - 1];
        }

        private boolean isShaded(int at, int moved) {
            return buyers > 0 && at >= spot[0] + moved && at <= lastSpot() + moved;
        }

        int stallsShaded(int moved) {
            int set = 0;
            for (int k = 0; k < stalls; k++) {
                if (isShaded(stallSpot[k], moved)) {
                    set |= 1 << k;
                }
            }
            return set;
        }

        boolean shiftAll(int way) {
            if (buyers == 0 || !canGo(0, buyers - 1, way)) {
                return false;
            }
            for (int i = 0; i < buyers; i++) {
                spot[i] += way;
            }
            return true;
        }

        // Of the shifts by which most STALLS are shaded a least one; it may go either way.
        int bestShift() {
            int best = 0;
            int most = Integer.bitCount(stallsShaded(sun()));
            for (int shift = -spot[0]; shift + lastSpot() < SPOTS; shift++) {
                int n = Integer.bitCount(stallsShaded(sun() + shift));
                if (n > most || n == most && Math.abs(shift) < Math.abs(best)) {
                    most = n;
                    best = shift;
                }
            }
            return best;
        }

        int fewestHolders() {
            int all = (1 << buyers) - 1;
            int best = all;
            for (int set = 1; set < all; set++) {
                if (Integer.bitCount(set) < Integer.bitCount(best) && doHold(set)) {
                    best = set;
                }
            }
            return best;
        }

        private boolean doHold(int set) {
            if (!isIn(set, 0) || !isIn(set, buyers - 1)) {
                return false;
            }
            int ahead = 0;
            for (int i = 1; i < buyers; i++) {
                if (isIn(set, i)) {
                    if (spot[i] - spot[ahead] > slackBehind(ahead, kind[i])) {
                        return false;
                    }
                    ahead = i;
                }
            }
            return true;
        }

        int howManyOfKind(int ofKind) {
            int n = 0;
            for (int i = 0; i < buyers; i++) {
                n += isOfKind(i, ofKind) ? 1 : 0;
            }
            return n;
        }

        int howManyWant() {
            int n = 0;
            for (int i = 0; i < buyers; i++) {
                n += want[i] != NO_GOOD ? 1 : 0;
            }
            return n;
        }

        int paidByAll() {
            int sum = 0;
            for (int i = 0; i < buyers; i++) {
                sum += paid[i];
            }
            return sum;
        }

        int pricesOfAll() {
            int sum = 0;
            for (int k = 0; k < stalls; k++) {
                sum += stallPrice[k];
            }
            return sum;
        }

        int factOfBuyer(int i, int what) {
            switch (what) {
                case 0:
                    return kind[i];
                case 1:
                    return spot[i];
                case 2:
                    return want[i] == NO_GOOD ? NONE : want[i];
                default:
                    return paid[i];
            }
        }

        int factOfStall(int k, int what) {
            switch (what) {
                case 0:
                    return stallSpot[k];
                case 1:
                    return stallGood[k];
                case 2:
                    return stallPrice[k];
                default:
                    return stallSold[k];
            }
        }

        // SPOTS and wants as one number, so that MINUTES can be compared.
        long spotsAndWants() {
            long packed = 0;
            for (int i = 0; i < buyers; i++) {
                packed = (packed * SPOTS + spot[i]) * WANTS + want[i];
            }
            return packed;
        }

        long digestOn(long h) {
            for (int i = 0; i < buyers; i++) {
                for (int what = 0; what < FACTS; what++) {
                    h = 31 * h + factOfBuyer(i, what);
                }
            }
            for (int k = 0; k < stalls; k++) {
                for (int what = 0; what < FACTS; what++) {
                    h = 31 * h + factOfStall(k, what);
                }
            }
            return h;
        }
    }

    /** What stood ahead of each MINUTE that can be undone. */
    private static final class History {
        private static final int PER_MINUTE = 4 * MOST;

        private final int[] saved = new int[LAST_MINUTE * PER_MINUTE];
        private int first;

        int first() {
            return first;
        }

        void beginAt(int minute) {
            first = minute;
        }

        void save(Market market) {
            if (!isWithin(market.minute, LAST_MINUTE)) {
                return;
            }
            int from = market.minute * PER_MINUTE;
            System.arraycopy(market.spot, 0, saved, from, MOST);
            System.arraycopy(market.want, 0, saved, from + MOST, MOST);
            System.arraycopy(market.paid, 0, saved, from + 2 * MOST, MOST);
            System.arraycopy(market.stallSold, 0, saved, from + 3 * MOST, MOST);
        }

        void goBack(Market market, int minute) {
            if (!isWithin(minute, LAST_MINUTE)) {
                return;
            }
            int from = minute * PER_MINUTE;
            System.arraycopy(saved, from, market.spot, 0, MOST);
            System.arraycopy(saved, from + MOST, market.want, 0, MOST);
            System.arraycopy(saved, from + 2 * MOST, market.paid, 0, MOST);
            System.arraycopy(saved, from + 3 * MOST, market.stallSold, 0, MOST);
            market.minute = minute;
        }
    }

    /** Reads a MARKET's small language. */
    private static final class Reader {
        private static final int AT = 65, GIVES_REACH = 103, STALL = 111, WANTS_NOTHING = 45, NIL = 48;
        // By KIND: b r d c t p.
        private static final int[] LETTERS = {98, 114, 100, 99, 116, 112};

        private final Market into = new Market();
        private Strip source = new Strip(0);
        private int place;
        private int wrong;

        // The FAULT's place, or NONE: then 'into' is the MARKET, but for its ways.
        int read(Strip text) {
            source = text;
            place = 0;
            wrong = NONE;
            into.clear();
            skipBlanks();
            take(GIVES_REACH, GIVES_REACH);
            into.reach = 1 + take(NIL + 1, NIL + 4);
            skipBlanks();
            for (int item = 0; item < TEXT_LIMIT && wrong == NONE && source.has(place); item++) {
                readItem();
                skipBlanks();
            }
            return wrong;
        }

        private void skipBlanks() {
            for (int n = 0; n < TEXT_LIMIT && source.get(place) == BLANK; n++) {
                place++;
            }
        }

        // Goes on behind a sign of these and tells which it is, or notes the first FAULT: 0 then.
        private int take(int from, int to) {
            int sign = source.get(place);
            if (wrong == NONE && (sign < from || sign > to)) {
                wrong = place;
            }
            if (wrong != NONE) {
                return 0;
            }
            place++;
            return sign - from;
        }

        private void readItem() {
            int letter = source.get(place);
            int kind = kindOf(letter);
            if (letter == STALL && into.buyers == 0 && into.stalls < MOST) {
                readStall();
            } else if (kind != NONE && into.buyers < MOST) {
                readBuyer(kind);
            } else {
                wrong = place;
            }
        }

        private static int kindOf(int letter) {
            for (int kind = 0; kind < LETTERS.length; kind++) {
                if (LETTERS[kind] == letter) {
                    return kind;
                }
            }
            return NONE;
        }

        private void readStall() {
            place++;
            int at = take(AT, AT + SPOTS - 1);
            int good = take(NIL, NIL + SWEETS);
            int price = take(NIL, NIL + 9);
            if (wrong == NONE) {
                into.addStall(at, good, price);
            }
        }

        private void readBuyer(int kind) {
            place++;
            int at = take(AT, AT + SPOTS - 1);
            if (wrong == NONE && !into.canAddBuyer(kind, at)) {
                wrong = place - 1;
            }
            int good = takeWant();
            if (wrong == NONE) {
                into.addBuyer(kind, at, good);
            }
        }

        private int takeWant() {
            if (source.get(place) == WANTS_NOTHING) {
                take(WANTS_NOTHING, WANTS_NOTHING);
                return NO_GOOD;
            }
            return take(NIL, NIL + SWEETS);
        }
    }

    /** Tries MINUTES aside. What an answer tells besides is left in 'besides'. */
    private static final class Forecast {
        private final Market trial = new Market();
        private final int[] order = new int[MOST];
        private final long[] week = new long[WEEK];
        private int besides;

        private int pass(int n) {
            int sales = 0;
            for (int m = 0; m < n; m++) {
                sales += trial.passMinute(0);
            }
            return sales;
        }

        int firstSaleTo(Market now, int i) {
            int good = now.want[i];
            trial.take(now);
            for (int m = 1; m <= LAST_MINUTE && good != NO_GOOD; m++) {
                trial.passMinute(0);
                if (trial.want[i] == NO_GOOD) {
                    besides = trial.stallHere(trial.spot[i], good);
                    return m;
                }
            }
            return NONE;
        }

        int sales(Market now, int n) {
            trial.take(now);
            int sales = pass(n);
            besides = trial.paidByAll() - now.paidByAll();
            return sales;
        }

        int salesInWinds(Market now, int n, int seed) {
            trial.take(now);
            long lot = seed;
            int sales = 0;
            for (int m = 0; m < n; m++) {
                lot = lot * LOT_FACTOR % LOT_MODULUS;
                sales += trial.passMinute((int) (lot % 3) - 1);
            }
            besides = trial.paidByAll() - now.paidByAll();
            return sales;
        }

        int firstRest(Market now) {
            trial.take(now);
            week[0] = trial.spotsAndWants();
            for (int m = 1; m <= LONGEST_REST; m++) {
                trial.passMinute(0);
                long state = trial.spotsAndWants();
                if (m >= WEEK && week[m % WEEK] == state) {
                    besides = trial.howManyWant();
                    return m;
                }
                week[m % WEEK] = state;
            }
            return NONE;
        }

        int spotsAfter(Market now, int n, Strip row) {
            trial.take(now);
            pass(n);
            row.renew(trial.buyers, 0);
            for (int i = 0; i < trial.buyers; i++) {
                row.exchange(i, trial.spot[i]);
            }
            return trial.sun();
        }

        int bestOrder(Market now, int n, Strip row) {
            trial.take(now);
            row.renew(now.buyers, 0);
            for (int i = 0; i < now.buyers; i++) {
                order[i] = i;
            }
            int most = -1;
            boolean more = true;
            for (int way = 0; way < 720 && more; way++) {
                trial.takeWhatMoves(now);
                shareWants(now);
                int sales = pass(n);
                if (sales > most) {
                    most = sales;
                    layOrder(row);
                }
                more = nextOrder(now.buyers);
            }
            return most;
        }

        private void shareWants(Market now) {
            for (int i = 0; i < now.buyers; i++) {
                trial.want[i] = now.want[order[i]];
            }
        }

        private void layOrder(Strip row) {
            for (int i = 0; i < row.size(); i++) {
                row.exchange(i, order[i]);
            }
        }

        // To the next order by numbers; false: this was the last one.
        private boolean nextOrder(int n) {
            int rise = n - 2;
            while (rise >= 0 && order[rise] > order[rise + 1]) {
                rise--;
            }
            if (rise < 0) {
                return false;
            }
            int above = n - 1;
            while (above > rise && order[above] < order[rise]) {
                above--;
            }
            swap(rise, above);
            for (int i = rise + 1, j = n - 1; i < j; i++, j--) {
                swap(i, j);
            }
            return true;
        }

        private void swap(int i, int j) {
            int left = order[i];
            order[i] = order[j];
            order[j] = left;
        }

        int bestPlace(Market now, int k, int n) {
            int best = 0;
            besides = -1;
            trial.take(now);
            for (int at = 0; at < SPOTS; at++) {
                trial.takeWhatMoves(now);
                trial.stallSpot[k] = at;
                trial.findWays();
                pass(n);
                int there = trial.stallSold[k] - now.stallSold[k];
                if (there > besides) {
                    besides = there;
                    best = at;
                }
            }
            return best;
        }

        int leastMissed(Market now, int n) {
            trial.take(now);
            int sales = pass(n);
            int buying = whoBought(now);
            int least = 0;
            for (int i = 0; i < now.buyers; i++) {
                trial.takeWhatMoves(now);
                trial.want[i] = NO_GOOD;
                int others = sales - (isIn(buying, i) ? 1 : 0);
                int fewer = others - pass(n);
                if (i == 0 || fewer < besides) {
                    besides = fewer;
                    least = i;
                }
            }
            return least;
        }

        private int whoBought(Market now) {
            int set = 0;
            for (int i = 0; i < now.buyers; i++) {
                if (now.want[i] != trial.want[i]) {
                    set |= 1 << i;
                }
            }
            return set;
        }
    }

    /** Finds all wants by which BUYERS come to where they were seen. */
    private static final class Tracker {
        private final Market trial = new Market();
        // By BUYER: GOODS (bits) of the ways that fit.
        private final int[] goods = new int[MOST];
        private int found;
        private int first;

        void seek(Market now, int set, int n, Strip seen) {
            found = 0;
            first = NONE;
            for (int i = 0; i < MOST; i++) {
                goods[i] = 0;
            }
            trial.take(now);
            int ways = howManyWays(set);
            for (int way = 0; way < ways; way++) {
                trial.takeWhatMoves(now);
                giveWants(set, way);
                for (int m = 0; m < n; m++) {
                    trial.passMinute(0);
                }
                if (isAsSeen(seen)) {
                    first = found == 0 ? way : first;
                    found++;
                    noteWants(set, way);
                }
            }
        }

        private static int howManyWays(int set) {
            int ways = 1;
            for (int i = 0; i < MOST; i++) {
                ways *= isIn(set, i) ? WANTS : 1;
            }
            return ways;
        }

        // The last one of the set has the lowest figure.
        private void giveWants(int set, int way) {
            for (int i = MOST - 1; i >= 0; i--) {
                if (isIn(set, i)) {
                    trial.want[i] = way % WANTS;
                    way /= WANTS;
                }
            }
        }

        private void noteWants(int set, int way) {
            for (int i = MOST - 1; i >= 0; i--) {
                if (isIn(set, i)) {
                    goods[i] |= 1 << way % WANTS;
                    way /= WANTS;
                }
            }
        }

        private boolean isAsSeen(Strip seen) {
            for (int i = 0; i < trial.buyers; i++) {
                if (seen.get(i) != NONE && seen.get(i) != trial.spot[i]) {
                    return false;
                }
            }
            return true;
        }
    }
}
