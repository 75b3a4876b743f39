import java.util.ArrayList;
import java.util.Arrays;
import java.util.List;
import java.util.Map;
import java.util.TreeMap;

/**
 * The document once more, written apart from the class and without care for room or speed, so that ModelTest can
 * hold the two against each other. The small language is read by another way, states are copied whole, searches are
 * plain recursions.
 */
final class PlainModel {
    static final String LETTERS = "brdctp";

    static final class Refused extends RuntimeException {
        private static final long serialVersionUID = 1L;
        final int answer;
        Refused(int answer) {
            super(null, null, false, false);
            this.answer = answer;
        }
    }

    static final class Stall {
        int spot, good, price, sold;
        Stall(int spot, int good, int price) {
            this.spot = spot;
            this.good = good;
            this.price = price;
        }
        Stall twin() {
            Stall s = new Stall(spot, good, price);
            s.sold = sold;
            return s;
        }
    }

    static final class Buyer {
        final char kind;
        int spot, want, paid;
        Buyer(char kind, int spot, int want) {
            this.kind = kind;
            this.spot = spot;
            this.want = want;
        }
        Buyer twin() {
            Buyer b = new Buyer(kind, spot, want);
            b.paid = paid;
            return b;
        }
        boolean rich() {
            return kind == 'r' || kind == 'p';
        }
        boolean bored() {
            return kind == 'd' || kind == 't';
        }
    }

    static final class Place {
        int reach, minute;
        List<Stall> stalls = new ArrayList<>();
        List<Buyer> buyers = new ArrayList<>();

        Place twin() {
            Place p = new Place();
            p.reach = reach;
            p.minute = minute;
            for (Stall s : stalls) {
                p.stalls.add(s.twin());
            }
            for (Buyer b : buyers) {
                p.buyers.add(b.twin());
            }
            return p;
        }

        int sun() {
            return minute % 7 - 3;
        }

        boolean cloth() {
            for (int i = 1; i < buyers.size(); i++) {
                Buyer a = buyers.get(i - 1), b = buyers.get(i);
                if (b.spot <= a.spot) {
                    return false;
                }
                if (a.kind != 't' && b.kind != 't' && b.spot - a.spot > reach) {
                    return false;
                }
            }
            return true;
        }

        /** The nearest SPOT with one of these goods; -1: none. */
        int nearest(int from, String goods) {
            for (int far = 0; far < 20; far++) {
                for (int at : new int[] {from - far, from + far}) {
                    for (Stall s : stalls) {
                        if (s.spot == at && goods.indexOf('0' + s.good) >= 0) {
                            return at;
                        }
                    }
                }
            }
            return -1;
        }

        int wish(Buyer b) {
            if (b.bored()) {
                return 0;
            }
            String goods = (b.want == 4 ? "" : "" + b.want) + (b.kind == 'c' ? "3" : "");
            int at = nearest(b.spot, goods);
            return at < 0 ? 0 : Integer.signum(at - b.spot);
        }

        /** Who goes, or null: nobody can. */
        List<Integer> goers(int i, int way) {
            List<Integer> go = new ArrayList<>();
            go.add(i);
            if (buyers.get(i).rich()) {
                for (int side = -1; side <= 1; side += 2) {
                    for (int j = i; j + side >= 0 && j + side < buyers.size(); j += side) {
                        Place pair = new Place();
                        pair.reach = reach;
                        Buyer mover = buyers.get(j).twin();
                        mover.spot += way;
                        pair.buyers.add(mover);
                        pair.buyers.add(side < 0 ? 0 : 1, buyers.get(j + side));
                        if (pair.cloth()) {
                            break;
                        }
                        if (buyers.get(j + side).rich()) {
                            return null;
                        }
                        go.add(j + side);
                    }
                }
            }
            Place then = twin();
            for (int j : go) {
                Buyer b = then.buyers.get(j);
                b.spot += way;
                if (b.spot < 0 || b.spot > 19) {
                    return null;
                }
            }
            return then.cloth() ? go : null;
        }

        void step(int i) {
            int way = wish(buyers.get(i));
            List<Integer> go = way == 0 ? null : goers(i, way);
            if (go != null) {
                for (int j : go) {
                    buyers.get(j).spot += way;
                }
            }
        }

        boolean inShade(int at, int wind) {
            if (buyers.isEmpty()) {
                return false;
            }
            int moved = at - sun() - wind;
            return moved >= buyers.get(0).spot && moved <= buyers.get(buyers.size() - 1).spot;
        }

        /** Who buys where, in one MINUTE. */
        Map<Integer, Integer> minute(int wind) {
            for (int i = 0; i < buyers.size(); i++) {
                char kind = buyers.get(i).kind;
                if (kind == 'r' || kind == 'p') {
                    step(i);
                }
                if (kind == 'p') {
                    step(i);
                }
            }
            for (int i = 0; i < buyers.size(); i++) {
                if (!buyers.get(i).rich()) {
                    step(i);
                }
            }
            minute++;
            Map<Integer, Integer> sales = new TreeMap<>();
            for (int i = 0; i < buyers.size(); i++) {
                Buyer b = buyers.get(i);
                for (int k = 0; k < stalls.size(); k++) {
                    Stall s = stalls.get(k);
                    if (s.spot == b.spot && s.good == b.want && inShade(b.spot, wind)) {
                        b.paid += s.price;
                        s.sold++;
                        b.want = 4;
                        sales.put(i, k);
                    }
                }
            }
            return sales;
        }

        int go(int n) {
            int sales = 0;
            for (int m = 0; m < n; m++) {
                sales += minute(0).size();
            }
            return sales;
        }

        int paid() {
            int sum = 0;
            for (Buyer b : buyers) {
                sum += b.paid;
            }
            return sum;
        }

        String looks() {
            StringBuilder s = new StringBuilder();
            for (Buyer b : buyers) {
                s.append(b.spot).append(':').append(b.want).append(' ');
            }
            return s.toString();
        }
    }

    final int[][] rows = new int[6][];
    final byte[][] texts = new byte[4][];
    Place now = new Place();
    final Place[] kept = new Place[3];
    final List<Place> past = new ArrayList<>();
    int asked, finding;
    final int[] findings = new int[6];

    // ---- refusals

    void bad(boolean b) {
        if (b) {
            throw new Refused(-1);
        }
    }

    void state(boolean b) {
        if (b) {
            throw new Refused(-4);
        }
    }

    void find(boolean b, int f) {
        if (b) {
            finding = f;
            findings[f]++;
            throw new Refused(-3);
        }
    }

    static boolean out(int v, int from, int to) {
        return v < from || v > to;
    }

    int tell(int v) {
        asked = v;
        return 1;
    }

    // ---- the calls, by name

    long call(String name, int[] a) {
        try {
            return made(name, a);
        } catch (Refused r) {
            return r.answer;
        }
    }

    private long made(String name, int[] a) {
        switch (name) {
            case "row": return row(a[0], a[1]);
            case "lay": return lay(a[0], a[1], a[2]);
            case "at": return at(a[0], a[1]);
            case "tear": return tear(a[0]);
            case "copy": return copy(a[0], a[1], a[2], a[3], a[4]);
            case "mean": return mean(a[0]);
            case "text": return text(a[0], a[1]);
            case "put": return put(a[0], a[1], a[2]);
            case "fault": return fault(a[0]);
            case "market": return market(a[0]);
            case "buyer": return buyer(a[0], a[1]);
            case "stall": return stall(a[0], a[1]);
            case "mark": return mark(a[0], a[1]);
            case "want": return want(a[0], a[1]);
            case "price": return price(a[0], a[1]);
            case "wish": return wish(a[0]);
            case "minutes": return minutes(a[0]);
            case "undo": return undo(a[0]);
            case "turn": return turn(a[0]);
            case "shade": return shade();
            case "shaded": return shaded(now);
            case "keep": return keep(a[0]);
            case "on": return on(a[0]);
            default: return asks(name, a);
        }
    }

    private long asks(String name, int[] a) {
        switch (name) {
            case "when": return when(a[0]);
            case "bought": return bought(a[0]);
            case "rest": return rest();
            case "track": return track(a[0], a[1]);
            case "best": return best(a[0], a[1]);
            case "spot": return spot(a[0], a[1]);
            case "missed": return missed(a[0]);
            case "fewest": return fewest();
            case "turns": return turns();
            case "fits": return fits(a[0], a[1], a[2]);
            case "could": return could(a[0], a[1], a[2], a[3]);
            case "winds": return winds(a[0], a[1]);
            case "asked": return asked;
            case "upper": return part()[0];
            case "lower": return part()[1];
            case "count": return count(a[0]);
            case "finding": return finding;
            case "findings": return out(a[0], 1, 5) ? -1 : findings[a[0]];
            case "digest": return digest();
            default: throw new IllegalStateException(name);
        }
    }

    int row(int r, int n) {
        bad(out(r, 0, 5) || n > 40);
        find(n < 0, 5);
        rows[r] = new int[n];
        return n;
    }

    private int[] ofRow(int r, int i) {
        bad(out(r, 0, 5));
        find(rows[r] == null, 1);
        find(out(i, 0, rows[r].length - 1), 2);
        return rows[r];
    }

    int lay(int r, int i, int v) {
        int old = ofRow(r, i)[i];
        rows[r][i] = v;
        return tell(old);
    }

    int at(int r, int i) {
        return tell(ofRow(r, i)[i]);
    }

    int tear(int r) {
        bad(out(r, 0, 5));
        find(rows[r] == null, 1);
        rows[r] = null;
        return 1;
    }

    int copy(int r, int i, int to, int j, int n) {
        bad(out(r, 0, 5) || out(to, 0, 5));
        find(n < 0, 5);
        find(rows[r] == null || rows[to] == null, 1);
        find(i < 0 || j < 0 || (long) i + n > rows[r].length || (long) j + n > rows[to].length, 2);
        int[] taken = Arrays.copyOfRange(rows[r], i, i + n);
        for (int p = 0; p < n; p++) {
            rows[to][j + p] = taken[p];
        }
        return 1;
    }

    int mean(int r) {
        bad(out(r, 0, 5));
        find(rows[r] == null, 1);
        find(rows[r].length == 0, 4);
        long sum = 0;
        for (int v : rows[r]) {
            sum += v;
        }
        return tell((int) (sum / rows[r].length));
    }

    int text(int t, int n) {
        bad(out(t, 0, 3) || n > 80);
        find(n < 0, 5);
        texts[t] = new byte[n];
        Arrays.fill(texts[t], (byte) ' ');
        return n;
    }

    int put(int t, int i, int v) {
        bad(out(t, 0, 3));
        find(texts[t] == null, 1);
        find(out(i, 0, texts[t].length - 1), 2);
        int old = texts[t][i];
        texts[t][i] = (byte) v;
        return 1000 + old;
    }

    int fault(int t) {
        bad(out(t, 0, 3));
        find(texts[t] == null, 1);
        return read(texts[t], new Place());
    }

    /**
     * What may come next is told by a short word: S the start, then 1 a REACH, i an item, A 2 3 of a STALL,
     * a w of a BUYER. Blanks may come at S and i alone, the end at i alone.
     */
    static int read(byte[] text, Place into) {
        char next = 'S';
        char kind = ' ';
        int at = 0, good = 0;
        for (int p = 0; p < text.length; p++) {
            char c = (char) (text[p] & 255);
            if (c == ' ' && (next == 'S' || next == 'i')) {
                continue;
            }
            boolean fine;
            switch (next) {
                case 'S':
                    fine = c == 'g';
                    next = '1';
                    break;
                case '1':
                    fine = "1234".indexOf(c) >= 0;
                    into.reach = c - '0';
                    next = 'i';
                    break;
                case 'i':
                    kind = c;
                    if (c == 'o') {
                        fine = into.buyers.isEmpty() && into.stalls.size() < 6;
                        next = 'A';
                    } else {
                        fine = LETTERS.indexOf(c) >= 0 && into.buyers.size() < 6;
                        next = 'a';
                    }
                    break;
                case 'A':
                    fine = c >= 'A' && c <= 'T';
                    at = c - 'A';
                    next = '2';
                    break;
                case '2':
                    fine = "0123".indexOf(c) >= 0;
                    good = c - '0';
                    next = '3';
                    break;
                case '3':
                    fine = "0123456789".indexOf(c) >= 0;
                    into.stalls.add(new Stall(at, good, c - '0'));
                    next = 'i';
                    break;
                case 'a':
                    fine = c >= 'A' && c <= 'T';
                    into.buyers.add(new Buyer(kind, c - 'A', 4));
                    fine = fine && into.cloth();
                    next = 'w';
                    break;
                default:
                    fine = "0123-".indexOf(c) >= 0;
                    into.buyers.get(into.buyers.size() - 1).want = "0123-".indexOf(c);
                    next = 'i';
                    break;
            }
            if (!fine) {
                return p;
            }
        }
        return next == 'i' ? -9 : text.length;
    }

    int market(int t) {
        bad(out(t, 0, 3));
        find(texts[t] == null, 1);
        Place p = new Place();
        state(read(texts[t], p) != -9);
        now = p;
        past.clear();
        Arrays.fill(kept, null);
        return p.buyers.size();
    }

    private Buyer who(int i) {
        bad(out(i, 0, now.buyers.size() - 1));
        return now.buyers.get(i);
    }

    private Stall which(int k) {
        bad(out(k, 0, now.stalls.size() - 1));
        return now.stalls.get(k);
    }

    int buyer(int i, int what) {
        bad(out(what, 0, 3));
        Buyer b = who(i);
        return tell(new int[] {LETTERS.indexOf(b.kind), b.spot, b.want == 4 ? -9 : b.want, b.paid}[what]);
    }

    int stall(int k, int what) {
        bad(out(what, 0, 3));
        Stall s = which(k);
        return tell(new int[] {s.spot, s.good, s.price, s.sold}[what]);
    }

    int mark(int i, int kind) {
        Buyer b = who(i);
        bad(out(kind, 1, 5));
        String are = new String[] {"", "rp", "dt", "c", "t", "p"}[kind];
        find(are.indexOf(b.kind) < 0, 3);
        switch (kind) {
            case 1:
                List<Integer> go = now.goers(i, 1);
                return go == null ? 0 : go.size() - 1;
            case 2:
                return i == 0 || i == now.buyers.size() - 1
                    ? 0 : now.buyers.get(i + 1).spot - now.buyers.get(i - 1).spot;
            case 4:
                int n = 0;
                for (Stall s : now.stalls) {
                    n += Math.abs(s.spot - b.spot) <= now.reach ? 1 : 0;
                }
                return n;
            default:
                int at = now.nearest(b.spot, kind == 3 ? "3" : b.want == 4 ? "" : "" + b.want);
                return at < 0 ? -9 : Math.abs(at - b.spot);
        }
    }

    int want(int i, int good) {
        bad(out(good, 0, 4));
        int old = who(i).want;
        who(i).want = good;
        return old;
    }

    int price(int k, int v) {
        bad(out(v, 0, 99));
        int old = which(k).price;
        which(k).price = v;
        return old;
    }

    int wish(int i) {
        return tell(now.wish(who(i)));
    }

    int minutes(int n) {
        bad(out(n, 0, 20));
        state(now.buyers.isEmpty());
        if (now.minute + n > 60) {
            throw new Refused(-2);
        }
        int sales = 0;
        for (int m = 0; m < n; m++) {
            past.add(now.twin());
            sales += now.go(1);
        }
        return sales;
    }

    int undo(int n) {
        int back = now.minute - n;
        bad(n < 0 || back < 0 || back > past.size());
        for (int m = 0; m < back; m++) {
            Place then = past.remove(past.size() - 1);
            for (int k = 0; k < now.stalls.size(); k++) {
                then.stalls.get(k).price = now.stalls.get(k).price;
            }
            now = then;
        }
        return back;
    }

    int turn(int way) {
        bad(out(way, 0, 1));
        state(now.buyers.isEmpty());
        for (Buyer b : now.buyers) {
            if (out(b.spot + 2 * way - 1, 0, 19)) {
                return 0;
            }
        }
        for (Buyer b : now.buyers) {
            b.spot += 2 * way - 1;
        }
        return 1;
    }

    int shade() {
        state(now.buyers.isEmpty());
        int first = -1, n = 0;
        for (int at = 40; at >= -40; at--) {
            if (now.inShade(at, 0)) {
                first = at;
                n++;
            }
        }
        asked = first;
        return n;
    }

    static int shaded(Place p) {
        int set = 0;
        for (int k = 0; k < p.stalls.size(); k++) {
            set += p.inShade(p.stalls.get(k).spot, 0) ? 1 << k : 0;
        }
        return set;
    }

    int keep(int k) {
        bad(out(k, 0, 2));
        state(now.buyers.isEmpty());
        kept[k] = now.twin();
        return now.minute;
    }

    int on(int k) {
        bad(out(k, 0, 2));
        find(kept[k] == null, 1);
        now = kept[k].twin();
        past.clear();
        return now.minute;
    }

    int when(int i) {
        who(i);
        Place p = now.twin();
        for (int m = 1; m <= 60; m++) {
            Integer k = p.minute(0).get(i);
            if (k != null) {
                asked = k;
                return m;
            }
        }
        return -9;
    }

    int bought(int n) {
        bad(out(n, 0, 60));
        Place p = now.twin();
        int sales = p.go(n);
        asked = p.paid() - now.paid();
        return sales;
    }

    int rest() {
        state(now.buyers.isEmpty());
        Place p = now.twin();
        List<String> seen = new ArrayList<>();
        seen.add(p.looks());
        for (int m = 1; m <= 200; m++) {
            p.minute(0);
            seen.add(p.looks());
            if (m >= 7 && seen.get(m - 7).equals(seen.get(m))) {
                asked = 0;
                for (Buyer b : p.buyers) {
                    asked += b.want == 4 ? 0 : 1;
                }
                return m;
            }
        }
        return -9;
    }

    int track(int n, int r) {
        bad(out(n, 0, 60) || out(r, 0, 5));
        Place p = now.twin();
        for (int m = 0; m < n; m++) {
            p.minute(0);
        }
        rows[r] = new int[p.buyers.size()];
        for (int i = 0; i < rows[r].length; i++) {
            rows[r][i] = p.buyers.get(i).spot;
        }
        return tell(p.sun());
    }

    int best(int n, int r) {
        bad(out(n, 0, 20) || out(r, 0, 5));
        state(now.buyers.isEmpty());
        int[] most = {-1};
        tryOrders(new ArrayList<>(), n, r, most);
        return most[0];
    }

    private void tryOrders(List<Integer> order, int n, int r, int[] most) {
        int all = now.buyers.size();
        if (order.size() < all) {
            for (int i = 0; i < all; i++) {
                if (!order.contains(i)) {
                    order.add(i);
                    tryOrders(order, n, r, most);
                    order.remove(order.size() - 1);
                }
            }
            return;
        }
        Place p = now.twin();
        for (int i = 0; i < all; i++) {
            p.buyers.get(i).want = now.buyers.get(order.get(i)).want;
        }
        int sales = p.go(n);
        if (sales > most[0]) {
            most[0] = sales;
            rows[r] = new int[all];
            for (int i = 0; i < all; i++) {
                rows[r][i] = order.get(i);
            }
        }
    }

    int spot(int k, int n) {
        bad(out(n, 0, 20));
        which(k);
        state(now.buyers.isEmpty());
        int best = -1;
        asked = -1;
        for (int at = 0; at < 20; at++) {
            Place p = now.twin();
            p.stalls.get(k).spot = at;
            int there = 0;
            for (int m = 0; m < n; m++) {
                for (int where : p.minute(0).values()) {
                    there += where == k ? 1 : 0;
                }
            }
            if (there > asked) {
                asked = there;
                best = at;
            }
        }
        return best;
    }

    private static int others(Place p, int n, int but) {
        int sales = 0;
        for (int m = 0; m < n; m++) {
            for (int i : p.minute(0).keySet()) {
                sales += i == but ? 0 : 1;
            }
        }
        return sales;
    }

    int missed(int n) {
        bad(out(n, 0, 20));
        state(now.buyers.isEmpty());
        int who = -1;
        asked = 1000;
        for (int i = 0; i < now.buyers.size(); i++) {
            Place without = now.twin();
            without.buyers.get(i).want = 4;
            int fewer = others(now.twin(), n, i) - others(without, n, i);
            if (fewer < asked) {
                asked = fewer;
                who = i;
            }
        }
        return who;
    }

    int fewest() {
        state(now.buyers.isEmpty());
        int all = now.buyers.size();
        for (int size = 1; size <= all; size++) {
            for (int set = 1; set < 1 << all; set++) {
                Place p = new Place();
                p.reach = now.reach;
                for (int i = 0; i < all; i++) {
                    if ((set & 1 << i) != 0) {
                        p.buyers.add(now.buyers.get(i));
                    }
                }
                boolean ends = (set & 1) != 0 && (set & 1 << all - 1) != 0;
                if (ends && p.buyers.size() == size && p.cloth()) {
                    asked = set;
                    return size;
                }
            }
        }
        throw new IllegalStateException();
    }

    int turns() {
        state(now.buyers.isEmpty());
        int most = -1, fewest = 0;
        for (int way = -1; way <= 1; way += 2) {
            Place p = now.twin();
            int done = 0;
            while (p.buyers.get(0).spot >= 0 && p.buyers.get(p.buyers.size() - 1).spot <= 19) {
                int n = Integer.bitCount(shaded(p));
                if (n > most || n == most && done < fewest) {
                    most = n;
                    fewest = done;
                }
                for (Buyer b : p.buyers) {
                    b.spot += way;
                }
                done++;
            }
        }
        asked = most;
        return fewest;
    }

    private List<int[]> allThatFit(int set, int n, int r, int also) {
        bad(set < 0 || set >= 1 << now.buyers.size() || out(n, 0, 20) || out(r, 0, 5));
        bad(also != -9 && (out(also, 0, 5) || (set & 1 << also) == 0));
        state(now.buyers.isEmpty());
        if (Integer.bitCount(set) > 5) {
            throw new Refused(-6);
        }
        find(rows[r] == null, 1);
        find(rows[r].length != now.buyers.size(), 5);
        for (int v : rows[r]) {
            find(v != -9 && out(v, 0, 19), 3);
        }
        List<int[]> fit = new ArrayList<>();
        tryWants(now.twin(), 0, set, n, rows[r], fit);
        return fit;
    }

    private void tryWants(Place p, int i, int set, int n, int[] seen, List<int[]> fit) {
        if (i < p.buyers.size()) {
            boolean open = (set & 1 << i) != 0;
            for (int w = open ? 0 : now.buyers.get(i).want; w <= (open ? 4 : now.buyers.get(i).want); w++) {
                p.buyers.get(i).want = w;
                tryWants(p, i + 1, set, n, seen, fit);
            }
            return;
        }
        Place q = p.twin();
        q.go(n);
        for (int b = 0; b < seen.length; b++) {
            if (seen[b] != -9 && seen[b] != q.buyers.get(b).spot) {
                return;
            }
        }
        int[] wants = new int[seen.length];
        for (int b = 0; b < seen.length; b++) {
            wants[b] = p.buyers.get(b).want;
        }
        fit.add(wants);
    }

    int fits(int set, int n, int r) {
        List<int[]> fit = allThatFit(set, n, r, -9);
        asked = -9;
        for (int[] wants : fit) {
            StringBuilder figures = new StringBuilder("0");
            for (int i = 0; i < wants.length; i++) {
                figures.append((set & 1 << i) != 0 ? "" + wants[i] : "");
            }
            int number = Integer.parseInt(figures.toString(), 5);
            asked = asked == -9 ? number : Math.min(asked, number);
        }
        return fit.size();
    }

    int could(int set, int n, int r, int i) {
        bad(i == -9);
        int goods = 0;
        for (int[] wants : allThatFit(set, n, r, i)) {
            goods |= 1 << wants[i];
        }
        return goods;
    }

    int winds(int n, int seed) {
        bad(out(n, 1, 60) || out(seed, 1, 2147483646));
        state(now.buyers.isEmpty());
        Place p = now.twin();
        java.math.BigInteger lot = java.math.BigInteger.valueOf(seed);
        int sales = 0;
        for (int m = 0; m < n; m++) {
            lot = lot.multiply(java.math.BigInteger.valueOf(48271)).mod(java.math.BigInteger.valueOf(2147483647));
            sales += p.minute(lot.mod(java.math.BigInteger.valueOf(3)).intValue() - 1).size();
        }
        asked = p.paid() - now.paid();
        return sales;
    }

    private long[] part() {
        int prices = 0;
        for (Stall s : now.stalls) {
            prices += s.price;
        }
        if (prices == 0) {
            return new long[] {0, 1};
        }
        int paid = now.paid();
        int common = java.math.BigInteger.valueOf(paid).gcd(java.math.BigInteger.valueOf(prices)).intValue();
        return new long[] {paid / common, prices / common};
    }

    int count(int what) {
        bad(out(what, 0, 8));
        int rich = 0, bored = 0, wanting = 0, keeps = 0, lines = 0, words = 0;
        for (Buyer b : now.buyers) {
            rich += b.rich() ? 1 : 0;
            bored += b.bored() ? 1 : 0;
            wanting += b.want < 4 ? 1 : 0;
        }
        for (Place p : kept) {
            keeps += p == null ? 0 : 1;
        }
        for (int[] row : rows) {
            lines += row == null ? 0 : 1;
        }
        for (byte[] text : texts) {
            words += text == null ? 0 : 1;
        }
        return new int[] {now.buyers.size(), now.stalls.size(), now.minute, rich, bored, keeps, lines, words,
            wanting}[what];
    }

    long digest() {
        List<Integer> all = new ArrayList<>();
        int was = asked;
        for (int what = 0; what < 9; what++) {
            all.add(count(what));
        }
        all.add(now.buyers.isEmpty() ? 0 : now.reach);
        for (int i = 0; i < now.buyers.size() * 4; i++) {
            buyer(i / 4, i % 4);
            all.add(asked);
        }
        for (int k = 0; k < now.stalls.size() * 4; k++) {
            stall(k / 4, k % 4);
            all.add(asked);
        }
        asked = was;
        all.add(past.size());
        for (Place p : kept) {
            all.add(p == null ? -1 : p.minute);
        }
        for (int[] row : rows) {
            all.add(row == null ? -1 : row.length);
            for (int v : row == null ? new int[0] : row) {
                all.add(v);
            }
        }
        for (byte[] text : texts) {
            all.add(text == null ? -1 : text.length);
            for (int v : text == null ? new byte[0] : text) {
                all.add(v);
            }
        }
        long h = 17;
        for (int v : all) {
            h = 31 * h + v;
        }
        return h;
    }
}
