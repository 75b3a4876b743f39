/** Promises 37 to 43: asked, upper, lower, count, finding, findings, digest. */
public final class ToldTest {
    private static final Due due = new Due();

    public static void main(String[] args) {
        asked();
        part();
        count();
        findings();
        digestOfNew();
        digest();
        digestTellsAll();
        due.end("ToldTest");
    }

    private static void asked() {
        ClothMarket x = Due.marketOf("g4 oC15 bC1 dF-");
        due.is("0 before", x.asked(), 0);
        x.row(0, 2);
        x.lay(0, 0, 8);
        x.lay(0, 1, 8);
        due.tells("at", x, x.at(0, 0), 1, 8);
        x.row(0, 2);
        x.best(5, 1);
        due.is("these tell nothing by it", x.asked(), 8);
        due.tells("mean", x, x.mean(0), 1, 0);
        due.tells("when, NONE: it stays", x, x.when(1), Due.NONE, 0);
        due.tells("fits, none: NONE as told", x, x.fits(3, 0, 1), 0, Due.NONE);
        due.tells("buyer", x, x.buyer(1, 1), 1, 5);
    }

    private static void part() {
        ClothMarket x = Due.marketOf("g4 oC14 oT06 bC1 dF-");
        due.is("upper() before", x.upper(), 0);
        due.is("lower() before", x.lower(), 1);
        x.minutes(1);
        due.is("upper()", x.upper(), 2);
        due.is("lower()", x.lower(), 5);
        x.price(0, 0);
        x.price(1, 1);
        due.is("upper() above 1", x.upper(), 4);
        due.is("lower() above 1", x.lower(), 1);
        x.price(1, 0);
        due.is("upper() of no PRICES", x.upper(), 0);
        due.is("lower() of no PRICES", x.lower(), 1);
        x.price(1, 7);
        due.is("upper() in lowest terms already", x.upper(), 4);
        due.is("lower() in lowest terms already", x.lower(), 7);
        Due.write(x, 0, "g4 oC14 bC1 dF-");
        x.market(0);
        x.minutes(1);
        due.is("upper() of a MARKET with fewer STALLS", x.upper(), 1);
        due.is("lower() of a MARKET with fewer STALLS", x.lower(), 1);
        due.is("upper() of a new object", new ClothMarket().upper(), 0);
        due.is("lower() of a new object", new ClothMarket().lower(), 1);
    }

    private static void count() {
        ClothMarket x = Due.marketOf("g4 oC14 oT06 bC1 rD- dE0 cF- tG2 pH3");
        x.minutes(3);
        x.keep(1);
        x.row(0, 0);
        x.row(5, 3);
        x.row(3, 3);
        x.text(2, 0);
        int[] counts = {6, 2, 3, 2, 2, 1, 3, 2, 0};
        for (int i = 0; i < 6; i++) {
            x.buyer(i, 2);
            counts[8] += x.asked() == Due.NONE ? 0 : 1;
        }
        for (int what = 0; what < 9; what++) {
            due.is("count(" + what + ")", x.count(what), counts[what]);
        }
        due.is("count(8) at first", Due.marketOf("g4 bC1 rD- dE0 cF- tG2 pH3").count(8), 4);
        due.is("count(3) with a RICH one first", Due.marketOf("g4 rC1 pD-").count(3), 2);
        due.is("count(4) with a BORED one first", Due.marketOf("g4 tC1 dD-").count(4), 2);
        due.refuses("count(9)", x, () -> x.count(9), Due.BAD);
        due.refuses("count(-1)", x, () -> x.count(-1), Due.BAD);
    }

    private static void findings() {
        ClothMarket x = new ClothMarket();
        due.is("0 before any", x.finding(), 0);
        x.at(0, 0);
        x.at(0, 0);
        due.is("NOTHING", x.finding(), 1);
        x.row(0, 0);
        x.at(0, 0);
        due.is("BEYOND", x.finding(), 2);
        x.mean(0);
        due.is("NOUGHT", x.finding(), 4);
        x.row(0, -1);
        due.is("SIZE", x.finding(), 5);
        x.at(9, 9);
        x.fits(0, 0, 0);
        due.is("BAD and STATE are no FINDINGS", x.finding(), 5);
        Due.write(x, 0, "g1 bA-");
        x.market(0);
        x.mark(0, 1);
        due.is("UNLIKE", x.finding(), 3);
        int[] often = {2, 1, 1, 1, 1};
        for (int f = 1; f <= 5; f++) {
            due.is("findings(" + f + ")", x.findings(f), often[f - 1]);
        }
        due.refuses("findings(0)", x, () -> x.findings(0), Due.BAD);
        due.refuses("findings(6)", x, () -> x.findings(6), Due.BAD);
    }

    private static long hash(int... values) {
        long h = 17;
        for (int v : values) {
            h = 31 * h + v;
        }
        return h;
    }

    private static void digestOfNew() {
        due.is("digest() of a new object", new ClothMarket().digest(),
            hash(0, 0, 0, 0, 0, 0, 0, 0, 0, 0, 0, -1, -1, -1, -1, -1, -1, -1, -1, -1, -1, -1, -1, -1));
        ClothMarket x = Due.marketOf("g3");
        due.is("digest(): REACH 0 without BUYERS", x.digest(),
            hash(0, 0, 0, 0, 0, 0, 0, 1, 0, 0, 0, -1, -1, -1, -1, -1, -1, -1, -1, -1, 2, 103, 51, -1, -1, -1));
    }

    private static void digest() {
        ClothMarket x = Due.marketOf("g4oC15bC1dF-");
        x.minutes(1);
        x.keep(1);
        x.minutes(2);
        x.row(2, 2);
        x.lay(2, 1, -7);
        x.text(3, 0);
        x.at(2, 1);
        due.is("digest()", x.digest(), hash(
            2, 1, 3, 0, 1, 1, 1, 2, 0,
            4,
            0, 2, -9, 5, 2, 5, -9, 0,
            2, 1, 5, 1,
            3,
            -1, 1, -1,
            -1, -1, 2, 0, -7, -1, -1, -1,
            12, 103, 52, 111, 67, 49, 53, 98, 67, 49, 100, 70, 45, -1, -1, 0));
        due.is("asked() stays", x.asked(), -7);
        x.on(1);
        x.minutes(1);
        due.is("digest() behind on()", x.digest(), hash(
            2, 1, 2, 0, 1, 1, 1, 2, 0,
            4,
            0, 2, -9, 5, 2, 5, -9, 0,
            2, 1, 5, 1,
            1,
            -1, 1, -1,
            -1, -1, 2, 0, -7, -1, -1, -1,
            12, 103, 52, 111, 67, 49, 53, 98, 67, 49, 100, 70, 45, -1, -1, 0));
    }

    private static void digestTellsAll() {
        ClothMarket x = Due.marketOf("g4 oC15 bC1 dF-");
        long before = x.digest();
        x.put(0, 14, 200);
        due.is("digest() of a byte below 0", x.digest() - before, powerOf31(3) * (-56 - 45));
        x.finding();
        x.at(0, 0);
        due.is("FINDINGS are not of it", x.digest() - before, powerOf31(3) * (-56 - 45));
    }

    private static long powerOf31(int n) {
        long p = 1;
        for (int i = 0; i < n; i++) {
            p *= 31;
        }
        return p;
    }
}
