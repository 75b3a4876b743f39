import java.util.function.ToIntFunction;

/** The edges that promises 37 to 43 name, sentence by sentence: asked, upper, lower, count, finding, findings, digest. */
public final class ToldEdgesTest {
    private static final Due due = new Due();
    private static final int MIN = Integer.MIN_VALUE, MAX = Integer.MAX_VALUE;
    private static final String SIX = "g1 oA01 oB12 oC23 oD34 oE05 oF16 dA0 rB1 cC2 tD3 pE0 dF1";

    public static void main(String[] args) {
        askedBefore();
        askedByTellers();
        askedByOthers();
        askedByRefused();
        askedByNone();
        upper();
        upperOfNoPrices();
        lowestTerms();
        count();
        countFull();
        countRefused();
        finding();
        findings();
        findingsRefused();
        digestOfNew();
        digestReach();
        digestUndone();
        digestKept();
        digestRows();
        digestOfAll();
        due.end("ToldEdgesTest");
    }

    private static void askedBefore() {
        due.by("37: 0 before");
        ClothMarket x = new ClothMarket();
        due.is("asked()", x.asked(), 0);
        x.row(0, 3);
        x.at(0, 9);
        x.at(9, 0);
        x.fault(0);
        x.rest();
        due.is("asked() behind refusals", x.asked(), 0);
    }

    private static void askedByTellers() {
        due.by("37: What the latest lay(), at(), mean(), .. told");
        ClothMarket x = Due.marketOf(SIX);
        Due.see(x, 0, 5, 3);
        due.tells("lay", x, x.lay(0, 0, 8), 1, 5);
        due.tells("at", x, x.at(0, 0), 1, 8);
        due.tells("mean", x, x.mean(0), 1, 5);
        due.tells("buyer", x, x.buyer(5, 1), 1, 5);
        due.tells("stall", x, x.stall(5, 2), 1, 6);
        due.tells("wish", x, x.wish(5), 1, 0);
        due.tells("shade", x, x.shade(), 6, -3);
        due.tells("when", x, x.when(1), 1, 1);
        due.tells("bought", x, x.bought(1), 4, 10);
        due.tells("rest", x, x.rest(), 10, 0);
        due.tells("track", x, x.track(1, 1), 1, -2);
        due.tells("spot", x, x.spot(0, 20), 0, 1);
        due.tells("missed", x, x.missed(20), 0, 0);
        due.tells("fewest", x, x.fewest(), 3, 1 + 8 + 32);
        due.tells("turns", x, x.turns(), 3, 6);
        due.tells("fits", x, x.fits(1, 1, 1), 5, 0);
        due.tells("winds", x, x.winds(60, 1), 6, 21);
        due.tells("at again", x, x.at(0, 1), 1, 3);
    }

    private static void askedByOthers() {
        due.by("37: What the latest .. told: of these calls alone");
        ClothMarket x = Due.marketOf(SIX);
        Due.see(x, 0, 77, 3);
        x.at(0, 0);
        Due.write(x, 1, "g1");
        x.row(1, 6);
        x.copy(0, 0, 1, 0, 1);
        x.row(2, 1);
        x.tear(2);
        x.fault(1);
        x.market(0);
        x.mark(0, 2);
        x.mark(1, 1);
        x.mark(2, 3);
        x.mark(3, 4);
        x.mark(4, 5);
        x.want(0, 1);
        x.price(0, 7);
        x.minutes(4);
        x.undo(2);
        x.turn(1);
        x.shaded();
        x.keep(1);
        x.on(1);
        x.best(3, 1);
        x.could(1, 0, 1, 0);
        x.upper();
        x.lower();
        x.count(1);
        x.finding();
        x.findings(1);
        x.digest();
        due.is("asked()", x.asked(), 77);
    }

    private static void askedByRefused() {
        due.by("37: that was not refused");
        ClothMarket x = Due.marketOf("g1 oA01 bA1 bB1");
        Due.see(x, 0, 77, 3);
        x.row(1, 0);
        x.at(0, 0);
        due.refuses("lay", x, () -> x.lay(6, 0, 1), Due.BAD);
        due.finds("lay", x, () -> x.lay(0, 2, 1), Due.BEYOND);
        due.finds("at", x, () -> x.at(2, 0), Due.NOTHING);
        due.finds("mean", x, () -> x.mean(1), Due.NOUGHT);
        due.refuses("buyer", x, () -> x.buyer(2, 0), Due.BAD);
        due.refuses("stall", x, () -> x.stall(1, 0), Due.BAD);
        due.refuses("wish", x, () -> x.wish(2), Due.BAD);
        due.refuses("when", x, () -> x.when(2), Due.BAD);
        due.refuses("bought", x, () -> x.bought(61), Due.BAD);
        due.refuses("track", x, () -> x.track(61, 0), Due.BAD);
        due.refuses("spot", x, () -> x.spot(1, 0), Due.BAD);
        due.refuses("missed", x, () -> x.missed(21), Due.BAD);
        due.finds("fits", x, () -> x.fits(1, 0, 1), Due.SIZE);
        due.refuses("winds", x, () -> x.winds(0, 1), Due.BAD);
        due.is("asked()", x.asked(), 77);
        Due.write(x, 0, "g1 oA01");
        x.market(0);
        for (int c = 0; c < 6; c++) {
            int[] answers = {x.shade(), x.rest(), x.missed(1), x.fewest(), x.turns(), x.winds(1, 1)};
            due.is("of nobody, call " + c, answers[c], Due.STATE);
        }
        due.is("asked() of nobody", x.asked(), 77);
    }

    private static void askedByNone() {
        due.by("37: (nor NONE, but as told)");
        ClothMarket x = Due.marketOf("g1 oA01 bA1 bB-");
        Due.see(x, 0, 77, 3);
        Due.see(x, 1, 5, 6);
        x.at(0, 0);
        due.tells("when, NONE: not told", x, x.when(0), Due.NONE, 77);
        due.tells("buyer, nothing wanted: NONE as told", x, x.buyer(1, 2), 1, Due.NONE);
        x.at(0, 0);
        due.tells("fits, none: NONE as told", x, x.fits(1, 0, 1), 0, Due.NONE);
        x.at(0, 0);
        due.tells("fault, NONE: it tells nothing", x, x.fault(0), Due.NONE, 77);
        x.lay(0, 1, Due.NONE);
        due.tells("at, NONE laid there", x, x.at(0, 1), 1, Due.NONE);
    }

    private static void part(String call, ClothMarket x, long upper, long lower) {
        due.is(call + ", upper()", x.upper(), upper);
        due.is(call + ", lower()", x.lower(), lower);
    }

    private static void upper() {
        due.by("38: What all paid together, as a part of all PRICES of STALLS: its upper number; 39: Its lower number");
        ClothMarket x = Due.marketOf("g1 oA07 oT05 tA0 tC0");
        part("nothing paid", x, 0, 1);
        x.minutes(20);
        part("7 of 12", x, 7, 12);
        x.undo(0);
        part("undone", x, 0, 1);
        ClothMarket all = Due.marketOf("g1 oA07 oC25 tA0 tC2");
        all.minutes(20);
        part("all", all, 1, 1);
        all.price(0, 0);
        all.price(1, 1);
        part("12 of 1", all, 12, 1);
        all.price(1, 99);
        part("12 of 99", all, 4, 33);
        ClothMarket six = Due.marketOf("g1 oA00 oA00 oA00 oA00 oA00 oA00 tA0");
        for (int k = 0; k < 6; k++) {
            six.price(k, 99);
        }
        six.minutes(3);
        part("99 of 594", six, 1, 6);
    }

    private static void upperOfNoPrices() {
        due.by("38: (0, if these are 0); 39: (1, if these are 0)");
        part("a new object", new ClothMarket(), 0, 1);
        part("no STALLS", Due.marketOf("g1 bA0"), 0, 1);
        part("PRICES 0", Due.marketOf("g1 oA00 oB00 bA0"), 0, 1);
        ClothMarket x = Due.marketOf("g1 oA07 oB05 tA0");
        x.minutes(3);
        x.price(0, 0);
        part("7 of 5", x, 7, 5);
        x.price(1, 0);
        part("7 of 0", x, 0, 1);
        x.price(1, 1);
        part("7 of 1", x, 7, 1);
        ClothMarket free = Due.marketOf("g1 oA00 oB05 tA0");
        due.is("bought for 0", free.minutes(3), 1);
        part("0 of 5", free, 0, 1);
    }

    private static void lowestTerms() {
        due.by("38: in lowest terms");
        for (int price = 1; price <= 99; price += 7) {
            ClothMarket x = Due.marketOf("g1 oA00 oT00 tA0");
            for (int other = 0; other <= 99; other += 9) {
                x.market(0);
                x.price(0, price);
                x.price(1, other);
                x.minutes(3);
                int common = price + other;
                while (price % common != 0 || (price + other) % common != 0) {
                    common--;
                }
                part(price + " of " + (price + other), x, price / common, (price + other) / common);
            }
        }
    }

    private static void count() {
        due.by("40: 0 BUYERS, 1 STALLS, 2 the MINUTE, 3 RICH ones (PORTERS, too), 4 BORED ones (THIEVES, too), 5 kept MARKETS, 6 ROWS, 7 TEXTS that are there, 8 who want something");
        String letters = "brdctp";
        int[] rich = {0, 1, 0, 0, 0, 1}, bored = {0, 0, 1, 0, 1, 0};
        for (int kind = 0; kind < 6; kind++) {
            ClothMarket x = Due.marketOf("g1 oT00 " + letters.charAt(kind) + "A" + (kind % 2 == 0 ? "-" : "3"));
            int[] counts = {1, 1, 0, rich[kind], bored[kind], 0, 0, 1, kind % 2};
            for (int what = 0; what <= 8; what++) {
                due.is("count(" + what + ") of KIND " + kind, x.count(what), counts[what]);
            }
        }
        ClothMarket none = Due.marketOf("g1");
        for (int what = 0; what <= 8; what++) {
            due.is("count(" + what + ") of a MARKET of nobody", none.count(what), what == 7 ? 1 : 0);
        }
    }

    private static void countFull() {
        due.by("40: all that there can be");
        ClothMarket rich = Due.marketOf("g1 oA00 oA00 oA00 oA00 oA00 oA00 rA1 pB1 rC1 pD1 rE1 pF1");
        ClothMarket bored = Due.marketOf("g1 dA1 tB1 dC1 tD1 dE1 tF1");
        for (int r = 0; r < 6; r++) {
            rich.row(r, r);
        }
        for (int t = 0; t < 4; t++) {
            rich.text(t, t);
        }
        rich.minutes(20);
        rich.minutes(20);
        rich.minutes(20);
        for (int k = 0; k < 3; k++) {
            rich.keep(k);
        }
        int[] counts = {6, 6, 60, 6, 0, 3, 6, 4, 6};
        for (int what = 0; what <= 8; what++) {
            due.is("count(" + what + ")", rich.count(what), counts[what]);
        }
        due.is("BORED ones", bored.count(4), 6);
        due.is("no RICH ones", bored.count(3), 0);
    }

    private static void countRefused() {
        due.by("40: BAD");
        ClothMarket x = Due.marketOf(SIX);
        for (int what : new int[] {-1, 9, 10, MIN, MAX}) {
            due.refuses("count(" + what + ")", x, () -> x.count(what), Due.BAD);
        }
    }

    private static void finding() {
        due.by("41: The latest FINDING (0 before any)");
        ClothMarket x = Due.marketOf("g1 bA1");
        due.is("finding()", x.finding(), 0);
        x.row(0, 0);
        x.row(6, 0);
        x.minutes(21);
        x.fits(3, 0, 0);
        Due.write(x, 1, "g9");
        x.market(1);
        due.is("BAD and STATE are none", x.finding(), 0);
        x.at(1, 0);
        due.is("NOTHING", x.finding(), Due.NOTHING);
        x.at(0, 0);
        due.is("BEYOND", x.finding(), Due.BEYOND);
        x.mark(0, 1);
        due.is("UNLIKE", x.finding(), Due.UNLIKE);
        x.mean(0);
        due.is("NOUGHT", x.finding(), Due.NOUGHT);
        x.row(0, -1);
        due.is("SIZE", x.finding(), Due.SIZE);
        x.row(0, 1);
        x.at(0, 0);
        x.market(0);
        due.is("it stays by what is not refused", x.finding(), Due.SIZE);
        x.on(0);
        due.is("NOTHING", x.finding(), Due.NOTHING);
    }

    private static void findings() {
        due.by("42: How often a FINDING (1 .. 5) was answered");
        ClothMarket x = Due.marketOf("g1 bA1");
        x.row(0, 0);
        java.util.List<ToIntFunction<ClothMarket>> calls = java.util.List.of(
            m -> m.at(1, 0), m -> m.at(0, 0), m -> m.mark(0, 1), m -> m.mean(0), m -> m.row(0, -1));
        for (int f = 1; f <= 5; f++) {
            for (int often = 0; often < 2 * f; often++) {
                due.is("findings(" + f + ")", x.findings(f), often);
                due.is("a call that finds " + f, calls.get(f - 1).applyAsInt(x), Due.FINDING);
            }
        }
        for (int f = 1; f <= 5; f++) {
            due.is("findings(" + f + ") of all", x.findings(f), 2 * f);
        }
        x.market(0);
        x.keep(0);
        x.on(0);
        due.is("no call brings them back", x.findings(5), 10);
    }

    private static void findingsRefused() {
        due.by("42: BAD");
        ClothMarket x = Due.marketOf("g1 bA1");
        for (int f : new int[] {0, -1, 6, MIN, MAX}) {
            due.refuses("findings(" + f + ")", x, () -> x.findings(f), Due.BAD);
        }
        due.is("findings(1)", x.findings(1), 0);
        due.is("findings(5)", x.findings(5), 0);
    }

    private static long hash(int... values) {
        long h = 17;
        for (int v : values) {
            h = 31 * h + v;
        }
        return h;
    }

    private static void digestOfNew() {
        due.by("43: h = 17; then h = 31 h + v for each v: (-1: missing)");
        due.is("digest() of a new object", new ClothMarket().digest(),
            hash(0, 0, 0, 0, 0, 0, 0, 0, 0, 0, 0, -1, -1, -1, -1, -1, -1, -1, -1, -1, -1, -1, -1, -1));
        ClothMarket x = new ClothMarket();
        x.at(0, 0);
        x.row(9, 0);
        due.is("behind refusals", x.digest(), new ClothMarket().digest());
    }

    private static void digestReach() {
        due.by("43: REACH (0 without BUYERS)");
        for (int reach = 1; reach <= 4; reach++) {
            due.is("digest() with one", Due.marketOf("g" + reach + "bA0").digest(),
                hash(1, 0, 0, 0, 0, 0, 0, 1, 1, reach, 0, 0, 0, 0, 0, -1, -1, -1, -1, -1, -1, -1, -1, -1,
                    5, 103, 48 + reach, 98, 65, 48, -1, -1, -1));
            due.is("digest() with a STALL alone", Due.marketOf("g" + reach + "oB37").digest(),
                hash(0, 1, 0, 0, 0, 0, 0, 1, 0, 0, 1, 3, 7, 0, 0, -1, -1, -1, -1, -1, -1, -1, -1, -1,
                    6, 103, 48 + reach, 111, 66, 51, 55, -1, -1, -1));
        }
    }

    /** digest() of one who wants nothing, alone at A, at a MINUTE with so many to undo, three kept ones. */
    private static long alone(int minute, int undone, int... kept) {
        int many = 0;
        for (int k : kept) {
            many += k < 0 ? 0 : 1;
        }
        return hash(1, 0, minute, 0, 0, many, 0, 1, 0, 2, 0, 0, -9, 0, undone, kept[0], kept[1], kept[2],
            -1, -1, -1, -1, -1, -1, 5, 103, 50, 98, 65, 45, -1, -1, -1);
    }

    private static void digestUndone() {
        due.by("43: how many MINUTES can be undone");
        ClothMarket x = Due.marketOf("g2bA-");
        due.is("none", x.digest(), alone(0, 0, -1, -1, -1));
        x.minutes(20);
        x.minutes(20);
        x.minutes(20);
        due.is("60", x.digest(), alone(60, 60, -1, -1, -1));
        x.undo(20);
        due.is("20", x.digest(), alone(20, 20, -1, -1, -1));
        x.keep(1);
        x.on(1);
        due.is("none behind on()", x.digest(), alone(20, 0, -1, 20, -1));
        x.minutes(3);
        due.is("3 behind on()", x.digest(), alone(23, 3, -1, 20, -1));
        x.undo(21);
        due.is("1 behind on()", x.digest(), alone(21, 1, -1, 20, -1));
        x.market(0);
        due.is("none behind market()", x.digest(), alone(0, 0, -1, -1, -1));
    }

    private static void digestKept() {
        due.by("43: of each kept MARKET its MINUTE (-1: missing)");
        ClothMarket x = Due.marketOf("g2bA-");
        x.keep(0);
        due.is("kept at 0", x.digest(), alone(0, 0, 0, -1, -1));
        x.minutes(1);
        x.keep(2);
        due.is("kept at 1", x.digest(), alone(1, 1, 0, -1, 1));
        x.minutes(1);
        x.keep(1);
        due.is("kept at 2", x.digest(), alone(2, 2, 0, 2, 1));
        x.keep(0);
        due.is("kept over it", x.digest(), alone(2, 2, 2, 2, 1));
    }

    private static void digestRows() {
        due.by("43: of each ROW its size (-1: missing) and places, of each TEXT likewise");
        ClothMarket x = new ClothMarket();
        x.row(0, 0);
        x.row(2, 2);
        x.lay(2, 0, MIN);
        x.lay(2, 1, MAX);
        x.row(5, 1);
        x.text(0, 0);
        x.text(3, 3);
        x.put(3, 0, -128);
        x.put(3, 2, 127);
        long due1 = hash(0, 0, 0, 0, 0, 0, 3, 2, 0, 0, 0, -1, -1, -1,
            0, -1, 2, MIN, MAX, -1, -1, 1, 0, 0, -1, -1, 3, -128, 32, 127);
        due.is("digest()", x.digest(), due1);
        x.row(2, 3);
        x.tear(2);
        due.is("digest() behind tear()", x.digest(), hash(0, 0, 0, 0, 0, 0, 2, 2, 0, 0, 0, -1, -1, -1,
            0, -1, -1, -1, -1, 1, 0, 0, -1, -1, 3, -128, 32, 127));
        ClothMarket full = new ClothMarket();
        int[] values = new int[9 + 1 + 1 + 3 + 6 * 41 + 4 * 81];
        values[6] = 6;
        values[7] = 4;
        java.util.Arrays.fill(values, 11, 14, -1);
        int v = 14;
        for (int r = 0; r < 6; r++) {
            full.row(r, 40);
            full.lay(r, 39, r + 7);
            values[v] = 40;
            values[v + 40] = r + 7;
            v += 41;
        }
        for (int t = 0; t < 4; t++) {
            full.text(t, 80);
            full.put(t, 79, t);
            values[v] = 80;
            java.util.Arrays.fill(values, v + 1, v + 80, 32);
            values[v + 80] = t;
            v += 81;
        }
        due.is("digest() of all full", full.digest(), hash(values));
    }

    private static void digestOfAll() {
        due.by("43: (of a call that tells by asked(): what it tells, not the 1 that it answers; asked() stays)");
        ClothMarket x = Due.marketOf(SIX);
        x.minutes(5);
        x.keep(2);
        x.on(2);
        x.minutes(1);
        Due.see(x, 0, 77);
        java.util.List<Integer> values = new java.util.ArrayList<>();
        for (int what = 0; what <= 8; what++) {
            values.add(x.count(what));
        }
        values.add(1);
        for (int i = 0; i < 6; i++) {
            for (int what = 0; what < 4; what++) {
                x.buyer(i, what);
                values.add(x.asked());
            }
        }
        for (int k = 0; k < 6; k++) {
            for (int what = 0; what < 4; what++) {
                x.stall(k, what);
                values.add(x.asked());
            }
        }
        values.addAll(java.util.List.of(1, -1, -1, 5, 1, 77, -1, -1, -1, -1, -1, SIX.length()));
        for (char c : SIX.toCharArray()) {
            values.add((int) c);
        }
        values.addAll(java.util.List.of(-1, -1, -1));
        long h = 17;
        for (int v : values) {
            h = 31 * h + v;
        }
        x.at(0, 0);
        due.is("digest()", x.digest(), h);
        due.is("asked() stays", x.asked(), 77);
        due.is("digest() again", x.digest(), h);
    }
}
