/** Promises 29 to 33: best, spot, missed, fewest, turns. */
public final class BestTest {
    private static final Due due = new Due();
    /** The RICH one draws BUYER 0 away from the STALL B; they reach T at MINUTE 16. */
    private static final String DRAWN = "g2 oB03 oT14 bC0 rD1";

    public static void main(String[] args) {
        best();
        bestOfMany();
        spot();
        missed();
        fewest();
        turns();
        due.end("BestTest");
    }

    private static void best() {
        ClothMarket x = Due.marketOf(DRAWN);
        x.row(1, 40);
        due.is("best(5, 1)", x.best(5, 1), 1);
        due.rowIs("best(5, 1)", x, 1, 1, 0);
        due.is("best(0, 2)", x.best(0, 2), 0);
        due.rowIs("best(0, 2)", x, 2, 0, 1);
        due.is("best(2, 2)", x.best(2, 2), 0);
        due.rowIs("best(2, 2)", x, 2, 0, 1);
        due.is("best(20, 3): the first of those with 1", x.best(20, 3), 1);
        due.rowIs("best(20, 3)", x, 3, 0, 1);
        due.is("wants stay", x.want(0, 0), 0);
        due.refuses("best(21, 0)", x, () -> x.best(21, 0), Due.BAD);
        due.refuses("best(-1, 0)", x, () -> x.best(-1, 0), Due.BAD);
        due.refuses("best(0, 6)", x, () -> x.best(0, 6), Due.BAD);
        due.refuses("best(0, -1)", x, () -> x.best(0, -1), Due.BAD);
        ClothMarket nobody = new ClothMarket();
        due.refuses("best(0, 0) of nobody", nobody, () -> nobody.best(0, 0), Due.STATE);
        due.refuses("best(0, 6) of nobody", nobody, () -> nobody.best(0, 6), Due.BAD);
        ClothMarket one = Due.marketOf("g4 oC15 bD1");
        due.is("best(3, 0) of one", one.best(3, 0), 1);
        due.rowIs("best(3, 0) of one", one, 0, 0);
    }

    /** All are BORED and stand at STALLS: a way is as good as many stand at what they want. */
    private static void bestOfMany() {
        ClothMarket x = Due.marketOf("g1 oC01 oD11 oE21 oF31 dC1 dD0 dE3 dF2");
        due.is("best(10, 0)", x.best(10, 0), 4);
        due.rowIs("best(10, 0)", x, 0, 1, 0, 3, 2);
        ClothMarket y = Due.marketOf("g1 oC01 oD11 oE21 oF31 dA- dB- dC1 dD0 dE3 dF-");
        due.is("best(10, 0) with nothing wanted", y.best(10, 0), 3);
        due.rowIs("best(10, 0) with nothing wanted", y, 0, 0, 1, 3, 2, 5, 4);
        ClothMarket z = Due.marketOf("g1 oF01 dA0 dB1 dC2 dD3 dE- dF-");
        due.is("best(10, 0) of six", z.best(10, 0), 1);
        due.rowIs("best(10, 0) of six", z, 0, 1, 2, 3, 4, 5, 0);
    }

    private static void spot() {
        ClothMarket x = Due.marketOf("g4 oT15 bF1");
        due.tells("spot(0, 2): nothing is bought", x, x.spot(0, 2), 0, 0);
        due.tells("spot(0, 3): three to the left", x, x.spot(0, 3), 2, 1);
        due.tells("spot(0, 0)", x, x.spot(0, 0), 0, 0);
        due.tells("its SPOT stays", x, x.stall(0, 0), 1, 19);
        x.minutes(3);
        due.tells("spot(0, 20): from now", x, x.spot(0, 20), 0, 1);
        ClothMarket two = Due.marketOf("g4 oT15 oD16 dC1 dD1 dE0");
        due.tells("spot(0, 20): where one wants it", two, two.spot(0, 20), 2, 1);
        due.tells("spot(1, 20): that STALL is not alone there", two, two.spot(1, 20), 2, 1);
        ClothMarket first = Due.marketOf("g4 oC15 oT16 dC1 dE0");
        due.tells("spot(1, 20): the first STALL at a SPOT sells", first, first.spot(1, 20), 0, 0);
        first.minutes(7);
        first.want(0, 1);
        due.tells("spot(0, 20): what was sold ahead does not count", first, first.spot(0, 20), 2, 1);
        due.refuses("spot(2, 0)", first, () -> first.spot(2, 0), Due.BAD);
        due.refuses("spot(-1, 0)", first, () -> first.spot(-1, 0), Due.BAD);
        due.refuses("spot(0, 21)", first, () -> first.spot(0, 21), Due.BAD);
        due.refuses("spot(0, -1)", first, () -> first.spot(0, -1), Due.BAD);
        ClothMarket nobody = Due.marketOf("g1 oA00");
        due.refuses("spot(0, 0) of nobody", nobody, () -> nobody.spot(0, 0), Due.STATE);
        due.refuses("spot(1, 0) of nobody", nobody, () -> nobody.spot(1, 0), Due.BAD);
    }

    private static void missed() {
        ClothMarket x = Due.marketOf(DRAWN);
        due.tells("missed(20): without the RICH one BUYER 0 BUYS", x, x.missed(20), 1, -1);
        due.tells("missed(1): at once", x, x.missed(1), 1, -1);
        due.tells("missed(0)", x, x.missed(0), 0, 0);
        due.is("wants stay", x.want(1, 1), 1);
        // BUYER 1 BUYS at G only since the RICH one draws all there.
        ClothMarket drawn = Due.marketOf("g1 oT03 oG14 rC0 dD1");
        due.tells("missed(20): the BORED one", drawn, drawn.missed(20), 1, 0);
        ClothMarket two = Due.marketOf("g1 oT03 oG14 rC0 dD1 rE-");
        due.tells("missed(20): nobody moves", two, two.missed(20), 0, 0);
        ClothMarket own = Due.marketOf("g4 oC15 bC1");
        due.tells("missed(20): one's own sale does not count", own, own.missed(20), 0, 0);
        due.refuses("missed(21)", x, () -> x.missed(21), Due.BAD);
        due.refuses("missed(-1)", x, () -> x.missed(-1), Due.BAD);
        ClothMarket nobody = new ClothMarket();
        due.refuses("missed(0) of nobody", nobody, () -> nobody.missed(0), Due.STATE);
        due.refuses("missed(21) of nobody", nobody, () -> nobody.missed(21), Due.BAD);
    }

    private static void holds(String text, int fewest, int who) {
        ClothMarket x = Due.marketOf(text);
        due.tells("fewest() of " + text, x, x.fewest(), fewest, who);
    }

    private static void fewest() {
        holds("g4 bA-", 1, 1);
        holds("g4 bA- bB-", 2, 3);
        holds("g4 bA- bC- bE- bG-", 3, 11);
        holds("g4 bA- bB- bC- bD- bE- bF-", 3, 35);
        holds("g4 bA- bB- bC- bD- bE-", 2, 17);
        holds("g1 bA- bB- bC- bD- bE- bF-", 6, 63);
        holds("g1 tA- bB- bC-", 2, 5);
        holds("g1 bA- bB- tC-", 2, 5);
        holds("g1 bA- tB- bC- bD-", 3, 11);
        holds("g1 bA- bB- tC- bD- bE-", 3, 21);
        holds("g2 bA- bB- bD- bF-", 4, 15);
        ClothMarket nobody = new ClothMarket();
        due.refuses("fewest() of nobody", nobody, nobody::fewest, Due.STATE);
    }

    private static void turnsOf(String text, int minute, int turns, int stalls) {
        ClothMarket x = Due.marketOf(text);
        x.minutes(minute);
        due.tells("turns() of " + text + " at " + minute, x, x.turns(), turns, stalls);
    }

    private static void turns() {
        turnsOf("g4 oA01 oC02 oT03 bF- bH-", 0, 2, 2);
        turnsOf("g4 oA01 oC02 oT03 bF- bH-", 6, 9, 1);
        turnsOf("g4 oJ01 bG-", 0, 6, 1);
        turnsOf("g4 oJ01 bG-", 6, 0, 1);
        turnsOf("g4 oA01 bG-", 6, 0, 0);
        turnsOf("g4 oG01 oM01 bM-", 0, 3, 1);
        turnsOf("g4 oG01 oM01 bM-", 3, 0, 1);
        turnsOf("g4 oF01 oM01 bM-", 0, 3, 1);
        turnsOf("g4 oG01 oN01 bM-", 0, 3, 1);
        turnsOf("g4 oT01 bT-", 2, 0, 0);
        turnsOf("g4 oA01 bA-", 4, 0, 0);
        turnsOf("g4 bM-", 3, 0, 0);
        ClothMarket x = Due.marketOf("g4 oA01 oC02 oT03 bF- bH-");
        x.turn(0);
        x.turn(0);
        due.is("behind the turns", x.shaded(), 3);
        due.tells("no more turns", x, x.turns(), 0, 2);
        ClothMarket nobody = new ClothMarket();
        due.refuses("turns() of nobody", nobody, nobody::turns, Due.STATE);
    }
}
