/** Promises 25 to 28 and 36: when, bought, rest, track, winds. */
public final class AsideTest {
    private static final Due due = new Due();

    public static void main(String[] args) {
        when();
        bought();
        rest();
        track();
        winds();
        nothingChanges();
        due.end("AsideTest");
    }

    private static void when() {
        ClothMarket x = Due.marketOf("g4 oA02 oC15 bD1");
        due.tells("when(0)", x, x.when(0), 3, 1);
        x.minutes(1);
        due.tells("when(0) a MINUTE on", x, x.when(0), 2, 1);
        x.minutes(2);
        due.tells("when(0): wants nothing; asked() stays", x, x.when(0), Due.NONE, 1);
        ClothMarket none = Due.marketOf("g4 oA02 bD1");
        due.tells("when(0): no STALL", none, none.when(0), Due.NONE, 0);
        ClothMarket two = Due.marketOf("g4 oC15 oF27 bC1 dF2");
        due.tells("when(0) of two", two, two.when(0), 1, 0);
        due.tells("when(1) of two", two, two.when(1), 3, 1);
        ClothMarket same = Due.marketOf("g4 oD14 oC15 oC16 bC1");
        due.tells("when(0): the first STALL there", same, same.when(0), 3, 1);
        ClothMarket late = Due.marketOf("g4 oC15 bD1");
        for (int m = 0; m < 3; m++) {
            late.minutes(20);
            late.want(0, 1);
        }
        due.tells("when(0) beyond MINUTE 60", late, late.when(0), 6, 0);
        due.refuses("when(1)", x, () -> x.when(1), Due.BAD);
        due.refuses("when(-1)", x, () -> x.when(-1), Due.BAD);
        ClothMarket nobody = new ClothMarket();
        due.refuses("when(0) of nobody", nobody, () -> nobody.when(0), Due.BAD);
    }

    private static void bought() {
        ClothMarket x = Due.marketOf("g4 oC15 oF27 bC1 dF2");
        due.tells("bought(0)", x, x.bought(0), 0, 0);
        due.tells("bought(1)", x, x.bought(1), 1, 5);
        due.tells("bought(2)", x, x.bought(2), 1, 5);
        due.tells("bought(3)", x, x.bought(3), 2, 12);
        due.tells("bought(60)", x, x.bought(60), 2, 12);
        x.price(1, 99);
        x.minutes(1);
        due.tells("bought(60) from now", x, x.bought(60), 1, 99);
        due.refuses("bought(61)", x, () -> x.bought(61), Due.BAD);
        due.refuses("bought(-1)", x, () -> x.bought(-1), Due.BAD);
        ClothMarket nobody = Due.marketOf("g1 oA00");
        due.tells("bought(60) of nobody", nobody, nobody.bought(60), 0, 0);
    }

    private static void rest() {
        ClothMarket x = Due.marketOf("g4 oC15 bD1");
        due.tells("rest()", x, x.rest(), 10, 0);
        x.minutes(3);
        due.tells("rest() behind the sale", x, x.rest(), 7, 0);
        ClothMarket still = Due.marketOf("g4 bD1 dE0 tF-");
        due.tells("rest() of who stand still", still, still.rest(), 7, 2);
        ClothMarket goes = Due.marketOf("g4 oA00 tD- bT0");
        due.tells("rest() of one who goes from T to E", goes, goes.rest(), 22, 1);
        ClothMarket nobody = new ClothMarket();
        due.refuses("rest() of nobody", nobody, nobody::rest, Due.STATE);
    }

    private static void track() {
        ClothMarket x = Due.marketOf("g4 oA05 oT15 tC1 bJ0 bL1");
        due.tells("track(0, 0)", x, x.track(0, 0), 1, -3);
        due.is("as many as BUYERS", x.lay(0, 3, 0), Due.FINDING);
        due.tells("at(0, 2)", x, x.at(0, 2), 1, 11);
        x.row(1, 40);
        due.tells("track(2, 1)", x, x.track(2, 1), 1, -1);
        due.finds("a ROW anew", x, () -> x.at(1, 3), Due.BEYOND);
        due.tells("the THIEF", x, x.at(1, 0), 1, 2);
        due.tells("goes left, till THE CLOTH holds", x, x.at(1, 1), 1, 8);
        due.tells("goes right, till THE CLOTH holds", x, x.at(1, 2), 1, 12);
        x.minutes(20);
        due.tells("track(60, 5)", x, x.track(60, 5), 1, 0);
        due.refuses("track(61, 0)", x, () -> x.track(61, 0), Due.BAD);
        due.refuses("track(-1, 0)", x, () -> x.track(-1, 0), Due.BAD);
        due.refuses("track(0, 6)", x, () -> x.track(0, 6), Due.BAD);
        due.refuses("track(0, -1)", x, () -> x.track(0, -1), Due.BAD);
        ClothMarket nobody = new ClothMarket();
        due.tells("track(8, 0) of nobody", nobody, nobody.track(8, 0), 1, -2);
        due.finds("a ROW of none", nobody, () -> nobody.at(0, 0), Due.BEYOND);
    }

    /** How a lone BUYER at a STALL fares: shaded when THE SUN and the wind together are 0. */
    private static int firstLull(int n, int seed) {
        long lot = seed;
        for (int m = 1; m <= n; m++) {
            lot = lot * 48271 % 2147483647L;
            if (m % 7 - 3 + lot % 3 - 1 == 0) {
                return m;
            }
        }
        return 0;
    }

    private static void winds() {
        int[] seeds = {1, 2, 3, 4, 5, 6, 7, 8, 9, 10, 11, 12, 77, 12345, 2147483646, 2147483645};
        int[] found = new int[8];
        for (int seed : seeds) {
            for (int n = 1; n <= 60; n++) {
                ClothMarket x = Due.marketOf("g4 oC15 bC1");
                int lull = firstLull(n, seed);
                found[Math.min(lull, 7)]++;
                due.tells("winds(" + n + ", " + seed + ")", x, x.winds(n, seed), lull == 0 ? 0 : 1, lull == 0 ? 0 : 5);
            }
        }
        due.is("the seeds tell winds apart", found[2] > 0 && found[3] > 0 && found[4] > 0 ? 1 : 0, 1);
        // By hand: 48271, 182605794, 1291394886 modulo 3 are 1, 0, 0, so THE SHADE moves by -2, -2, -1, 1 at 4.
        due.is("no lull in 4 by seed 1", firstLull(4, 1), 0);
        ClothMarket x = Due.marketOf("g4 oC15 bC1");
        x.minutes(3);
        x.want(0, 1);
        due.tells("winds(60, 1): what was paid ahead does not count", x, x.winds(60, 1), 1, 5);
        due.refuses("winds(0, 1)", x, () -> x.winds(0, 1), Due.BAD);
        due.refuses("winds(61, 1)", x, () -> x.winds(61, 1), Due.BAD);
        due.refuses("winds(1, 0)", x, () -> x.winds(1, 0), Due.BAD);
        due.refuses("winds(1, -1)", x, () -> x.winds(1, -1), Due.BAD);
        due.refuses("winds(1, 2147483647)", x, () -> x.winds(1, 2147483647), Due.BAD);
        ClothMarket nobody = new ClothMarket();
        due.refuses("winds(1, 1) of nobody", nobody, () -> nobody.winds(1, 1), Due.STATE);
        due.refuses("winds(0, 1) of nobody", nobody, () -> nobody.winds(0, 1), Due.BAD);
    }

    private static void nothingChanges() {
        ClothMarket x = Due.marketOf("g3 oB14 oH03 oM37 oT22 rE0 bG1 dH- cJ2 tM1 pP0");
        x.minutes(2);
        x.track(0, 0);
        x.track(0, 1);
        long digest = x.digest();
        x.when(0);
        x.bought(60);
        x.rest();
        x.spot(1, 20);
        x.missed(20);
        x.fewest();
        x.turns();
        x.fits(31, 20, 0);
        x.could(7, 20, 0, 1);
        x.winds(60, 9);
        x.wish(0);
        x.shade();
        x.shaded();
        x.fault(0);
        due.is("all was aside", x.digest(), digest);
        x.track(60, 1);
        x.best(20, 1);
        x.track(0, 1);
        due.is("but for a ROW", x.digest(), digest);
    }
}
