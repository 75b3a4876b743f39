/** The edges that promises 29 to 33 name, sentence by sentence: best, spot, missed, fewest, turns. */
public final class BestEdgesTest {
    private static final Due due = new Due();
    private static final int MIN = Integer.MIN_VALUE, MAX = Integer.MAX_VALUE;

    public static void main(String[] args) {
        best();
        bestFirst();
        bestLast();
        bestRow();
        bestRefused();
        spot();
        spotFirst();
        spotThere();
        spotRefused();
        missed();
        missedFirst();
        missedFewer();
        missedRefused();
        fewest();
        fewestByReach();
        fewestByThieves();
        fewestLeast();
        fewestRefused();
        turns();
        turnsNone();
        turnsFewest();
        turnsRefused();
        due.end("BestEdgesTest");
    }

    private static void bestIs(String text, int n, int most, int... order) {
        ClothMarket x = Due.marketOf(text);
        due.tells("best(" + n + ") of " + text, x, x.best(n, 2), most, 0);
        due.rowIs("best(" + n + ") of " + text, x, 2, order);
    }

    private static void best() {
        due.by("29: Of all ways to give the wants of all to all (each want to one) that by which most BUY in n (0 .. 20) MINUTES");
        String five = "g1 oA00 oB10 oC20 oD30 dA- dB3 dC2 dD1 dE0";
        bestIs(five, 0, 0, 0, 1, 2, 3, 4);
        bestIs(five, 1, 3, 4, 3, 2, 0, 1);
        bestIs(five, 2, 4, 4, 3, 2, 1, 0);
        bestIs(five, 20, 4, 4, 3, 2, 1, 0);
        ClothMarket late = Due.marketOf("g1 oA00 dA- dB0");
        late.minutes(20);
        late.minutes(20);
        late.minutes(20);
        due.is("best(20) at MINUTE 60", late.best(20, 0), 1);
        due.rowIs("best(20) at MINUTE 60", late, 0, 1, 0);
    }

    private static void bestFirst() {
        due.by("29: (the first, by whose want each has, by numbers)");
        bestIs("g1 bA0", 0, 0, 0);
        bestIs("g1 oA00 tA0", 3, 1, 0);
        bestIs("g1 dA0 dB0 dC0 dD0 dE0 dF0", 20, 0, 0, 1, 2, 3, 4, 5);
        bestIs("g1 oA00 dA0 dB0 dC0 dD0 dE0 dF0", 20, 1, 0, 1, 2, 3, 4, 5);
        bestIs("g1 oA00 dA- dB- dC0 dD- dE0 dF-", 20, 1, 2, 0, 1, 3, 4, 5);
        bestIs("g1 oB00 dA- dB- dC0", 20, 1, 0, 2, 1);
        bestIs("g1 oA00 oB10 dA- dB0 dC1", 20, 2, 1, 2, 0);
    }

    private static void bestLast() {
        due.by("29: Of all ways: the last one, too, of 720");
        bestIs("g1 oA00 oB10 oC20 oD30 dA- dB- dC3 dD2 dE1 dF0", 20, 4, 5, 4, 3, 2, 0, 1);
        bestIs("g1 oA00 oB00 oC10 oD20 oE30 dA- dB3 dC2 dD1 dE0 dF0", 20, 5, 4, 5, 3, 2, 1, 0);
    }

    private static void bestRow() {
        due.by("29: comes to a ROW (anew; for each BUYER whose want): how many");
        for (int r = 0; r <= 5; r++) {
            ClothMarket x = Due.marketOf("g1 oA00 dA- dB0");
            x.row(r, r * 8);
            due.is("best(20, " + r + ")", x.best(20, r), 1);
            due.rowIs("best(20, " + r + ")", x, r, 1, 0);
            due.is("ROWS", x.count(6), 1);
            due.tells("wants stay", x, x.buyer(1, 2), 1, 0);
            due.is("no MINUTE", x.count(2), 0);
        }
    }

    private static void bestRefused() {
        due.by("29: BAD; STATE: no BUYERS");
        ClothMarket x = Due.marketOf("g1 oA00 dA- dB0");
        ClothMarket nobody = Due.marketOf("g1 oA00");
        Due.see(x, 0, 7);
        Due.see(nobody, 0, 7);
        for (int n : new int[] {-1, 21, MIN, MAX}) {
            due.refuses("best(" + n + ", 0)", x, () -> x.best(n, 0), Due.BAD);
            due.refuses("best(" + n + ", 0) of nobody", nobody, () -> nobody.best(n, 0), Due.BAD);
        }
        for (int r : new int[] {-1, 6, MIN, MAX}) {
            due.refuses("best(1, " + r + ")", x, () -> x.best(1, r), Due.BAD);
            due.refuses("best(1, " + r + ") of nobody", nobody, () -> nobody.best(1, r), Due.BAD);
        }
        due.refuses("best(0, 0) of nobody", nobody, () -> nobody.best(0, 0), Due.STATE);
        due.refuses("best(20, 5) of nobody", nobody, () -> nobody.best(20, 5), Due.STATE);
        due.rowIs("the ROW stays", x, 0, 7);
        due.rowIs("the ROW stays without BUYERS", nobody, 0, 7);
    }

    private static void spotIs(String text, int k, int n, int spot, int there) {
        ClothMarket x = Due.marketOf(text);
        long digest = x.digest();
        due.tells("spot(" + k + ", " + n + ") of " + text, x, x.spot(k, n), spot, there);
        due.is("nothing has changed", x.digest(), digest);
    }

    private static void spot() {
        due.by("30: Where (a SPOT) a STALL should be so that most BUY there in n (0 .. 20) MINUTES; how many by asked()");
        spotIs("g1 oA00 tT0", 0, 3, 19, 1);
        spotIs("g1 oA00 tT0", 0, 20, 19, 1);
        spotIs("g1 oT00 tA0", 0, 3, 0, 1);
        spotIs("g1 oA00 tS0 tT-", 0, 2, 18, 1);
        // The RICH one draws all to the right: at B one BUYS, in MINUTE 1, at C one in 1 and one in 2.
        spotIs("g1 oT10 oA00 dA0 dB0 dC0 rD1", 1, 1, 1, 1);
        spotIs("g1 oT10 oA00 dA0 dB0 dC0 rD1", 1, 2, 2, 2);
        spotIs("g1 oT10 oA00 dA0 dB0 dC0 rD1", 1, 20, 2, 2);
        spotIs("g1 oA10 oA10 oA10 oA10 oA10 oA00 tK0", 5, 20, 10, 1);
        ClothMarket late = Due.marketOf("g1 oA00 tT0");
        late.minutes(20);
        late.minutes(20);
        late.minutes(20);
        due.tells("spot(0, 20) at MINUTE 60", late, late.spot(0, 20), 19, 1);
        due.tells("spot(0, 5) at MINUTE 60", late, late.spot(0, 5), 0, 0);
        due.tells("spot(0, 6) at MINUTE 60", late, late.spot(0, 6), 19, 1);
    }

    private static void spotFirst() {
        due.by("30: (a SPOT, the first)");
        spotIs("g1 oT00 tK0", 0, 0, 0, 0);
        spotIs("g1 oT00 tK0", 0, 2, 0, 0);
        spotIs("g1 oT10 tK0", 0, 20, 0, 0);
        spotIs("g1 oT00 tK-", 0, 20, 0, 0);
        spotIs("g1 oT00 tF0 tK0", 0, 20, 5, 1);
        spotIs("g1 oT00 bF0", 0, 3, 2, 1);
    }

    private static void spotThere() {
        due.by("30: so that most BUY there: not at another STALL, nor ahead of now");
        spotIs("g1 oF00 oA00 tF0", 1, 20, 0, 0);
        spotIs("g1 oF00 oA00 tF0 tJ0", 1, 20, 9, 1);
        spotIs("g1 oA00 oF00 tF0", 0, 20, 5, 1);
        ClothMarket x = Due.behind("g1 oF00 tF0 tJ0", 3);
        due.tells("sold ahead", x, x.stall(0, 3), 1, 1);
        due.tells("spot(0, 20)", x, x.spot(0, 20), 9, 1);
    }

    private static void spotRefused() {
        due.by("30: BAD; STATE: no BUYERS");
        ClothMarket x = Due.marketOf("g1 oA00 oB00 dA- dB0");
        ClothMarket nobody = Due.marketOf("g1 oA00 oB00");
        for (int k : new int[] {-1, 2, 6, MIN, MAX}) {
            due.refuses("spot(" + k + ", 0)", x, () -> x.spot(k, 0), Due.BAD);
            due.refuses("spot(" + k + ", 0) of nobody", nobody, () -> nobody.spot(k, 0), Due.BAD);
        }
        for (int n : new int[] {-1, 21, MIN, MAX}) {
            due.refuses("spot(1, " + n + ")", x, () -> x.spot(1, n), Due.BAD);
            due.refuses("spot(1, " + n + ") of nobody", nobody, () -> nobody.spot(1, n), Due.BAD);
        }
        due.refuses("spot(1, 0) of nobody", nobody, () -> nobody.spot(1, 0), Due.STATE);
        due.refuses("spot(0, 20) of nobody", nobody, () -> nobody.spot(0, 20), Due.STATE);
        ClothMarket bare = Due.marketOf("g1 dA-");
        due.refuses("spot(0, 0) without STALLS", bare, () -> bare.spot(0, 0), Due.BAD);
    }

    private static void missedIs(String text, int n, int who, int fewer) {
        ClothMarket x = Due.marketOf(text);
        long digest = x.digest();
        due.tells("missed(" + n + ") of " + text, x, x.missed(n), who, fewer);
        due.is("nothing has changed", x.digest(), digest);
    }

    private static void missed() {
        due.by("31: Who is missed least: such that, if that one wanted nothing from now on, fewest fewer of the others would BUY in n (0 .. 20) MINUTES");
        missedIs("g2 oB03 oT14 bC0 rD1", 0, 0, 0);
        missedIs("g2 oB03 oT14 bC0 rD1", 1, 1, -1);
        missedIs("g2 oB03 oT14 bC0 rD1", 20, 1, -1);
        missedIs("g1 oT03 oG14 rC0 dD1", 20, 1, 0);
        missedIs("g4 oC15 bC1", 20, 0, 0);
        ClothMarket late = Due.marketOf("g2 oB03 oT14 bC- rD-");
        late.minutes(20);
        late.minutes(20);
        late.minutes(20);
        late.want(0, 0);
        late.want(1, 1);
        due.tells("missed(20) at MINUTE 60", late, late.missed(20), 1, -1);
    }

    private static void missedFirst() {
        due.by("31: the BUYER (the first)");
        missedIs("g1 bA-", 20, 0, 0);
        missedIs("g1 dA0 dB0 dC0 dD0 dE0 dF0", 20, 0, 0);
        missedIs("g1 oA00 oB10 oC20 oD30 oE00 oF10 dA0 dB1 dC2 dD3 dE0 dF1", 20, 0, 0);
        missedIs("g4 oQ19 oJ24 oO30 oE32 oN06 rB3 cF3 pG3 pH2 cI0", 3, 2, -4);
    }

    private static void missedFewer() {
        due.by("31: how many fewer by asked() (perhaps below 0)");
        missedIs("g2 oP18 oQ00 pC1 rD0", 20, 0, 1);
        missedIs("g4 oH12 oG36 oS29 oL02 pC3 pF1 pH0", 3, 0, 2);
        missedIs("g2 oC03 oF16 dC0 pD1 dF1", 3, 1, -2);
    }

    private static void missedRefused() {
        due.by("31: BAD; STATE: no BUYERS");
        ClothMarket x = Due.marketOf("g1 oA00 dA- dB0");
        ClothMarket nobody = Due.marketOf("g1 oA00");
        for (int n : new int[] {-1, 21, MIN, MAX}) {
            due.refuses("missed(" + n + ")", x, () -> x.missed(n), Due.BAD);
            due.refuses("missed(" + n + ") of nobody", nobody, () -> nobody.missed(n), Due.BAD);
        }
        due.refuses("missed(0) of nobody", nobody, () -> nobody.missed(0), Due.STATE);
        due.refuses("missed(20) of nobody", nobody, () -> nobody.missed(20), Due.STATE);
    }

    private static void holds(String text, int fewest, int who) {
        ClothMarket x = Due.marketOf(text);
        long digest = x.digest();
        due.tells("fewest() of " + text, x, x.fewest(), fewest, who);
        due.is("nothing has changed", x.digest(), digest);
    }

    private static void fewest() {
        due.by("32: The fewest BUYERS who hold THE CLOTH by themselves: the first and the last one");
        holds("g1 bA-", 1, 1);
        holds("g1 tT-", 1, 1);
        holds("g1 bA- bB-", 2, 3);
        holds("g1 tA- tT-", 2, 3);
        holds("g4 bA- bB- bC-", 2, 5);
        holds("g1 bA- bB- bC- bD- bE- bF-", 6, 63);
        holds("g4 bA- bE- bI- bM- bQ- bT-", 6, 63);
    }

    private static void fewestByReach() {
        due.by("32: of each two next ones of these SPOTS are no farther than REACH");
        for (int reach = 1; reach <= 4; reach++) {
            StringBuilder s = new StringBuilder("g" + reach);
            for (int i = 0; i < 6; i++) {
                s.append('b').append((char) ('A' + i)).append('-');
            }
            int[] fewest = {0, 6, 4, 3, 3};
            int[] who = {0, 63, 1 + 2 + 8 + 32, 1 + 4 + 32, 1 + 2 + 32};
            holds(s.toString(), fewest[reach], who[reach]);
        }
        holds("g4 bA- bC- bE-", 2, 5);
        holds("g4 bA- bC- bF-", 3, 7);
        holds("g3 bA- bC- bD-", 2, 5);
        holds("g2 bA- bC- bD-", 3, 7);
    }

    private static void fewestByThieves() {
        due.by("32: (or one is a THIEF)");
        holds("g1 tA- bJ- bK- bL-", 2, 9);
        holds("g1 bA- bB- bC- tT-", 2, 9);
        holds("g1 bA- bB- tJ- bS- bT-", 3, 21);
        holds("g1 bA- bB- tC- bD-", 3, 13);
        holds("g1 bA- tB- tC- bD-", 3, 11);
        holds("g4 bA- tB- bC- bE-", 2, 9);
        holds("g1 bA- rB- dC- cD- pE-", 5, 31);
    }

    private static void fewestLeast() {
        due.by("32: who (bits; the least) by asked()");
        holds("g2 bA- bB- bC- bD-", 3, 1 + 2 + 8);
        holds("g2 bA- bC- bD- bE-", 3, 1 + 2 + 8);
        holds("g2 bA- bB- bC- bE-", 3, 1 + 4 + 8);
        holds("g3 bA- bB- bC- bD- bE- bF-", 3, 1 + 4 + 32);
        holds("g3 bA- bB- bC- bD- bE- bG-", 3, 1 + 8 + 32);
    }

    private static void fewestRefused() {
        due.by("32: STATE: no BUYERS");
        ClothMarket nobody = Due.marketOf("g1 oA00");
        due.refuses("fewest() of nobody", nobody, nobody::fewest, Due.STATE);
        ClothMarket fresh = new ClothMarket();
        due.refuses("fewest() of a new object", fresh, fresh::fewest, Due.STATE);
    }

    private static void turnsAre(String text, int minute, int turns, int stalls) {
        ClothMarket x = Due.behind(text, minute);
        long digest = x.digest();
        due.tells("turns() of " + text + " at " + minute, x, x.turns(), turns, stalls);
        due.is("nothing has changed", x.digest(), digest);
    }

    private static void turns() {
        due.by("33: The fewest turn()s behind which as many STALLS are in THE SHADE, as it is then, as can be by any turn()s; how many STALLS by asked()");
        turnsAre("g1 oT00 dA-", 3, 19, 1);
        turnsAre("g1 oT00 dA-", 6, 16, 1);
        turnsAre("g1 oA00 dT-", 3, 19, 1);
        turnsAre("g1 oA00 dT-", 0, 16, 1);
        turnsAre("g1 oQ00 dA-", 0, 19, 1);
        turnsAre("g1 oD00 dT-", 6, 19, 1);
        turnsAre("g1 oA00 oB10 oC20 oD30 oE00 oF10 tA- tF-", 3, 0, 6);
        turnsAre("g1 oA00 oB10 oC20 oD30 oE00 oF10 tJ- tO-", 3, 9, 6);
    }

    private static void turnsNone() {
        due.by("33: as can be by any turn()s: none beyond the ground");
        turnsAre("g1 oT00 dA-", 0, 0, 0);
        turnsAre("g1 oR00 dA-", 0, 0, 0);
        turnsAre("g1 oA00 dT-", 6, 0, 0);
        turnsAre("g1 oC00 dT-", 6, 0, 0);
        turnsAre("g1 dA-", 3, 0, 0);
        turnsAre("g1 oA00 tA- tT-", 6, 0, 0);
        turnsAre("g1 oA00 tA- tT-", 0, 0, 1);
    }

    private static void turnsFewest() {
        due.by("33: The fewest turn()s");
        turnsAre("g1 oH00 oN00 dJ-", 3, 2, 1);
        turnsAre("g1 oF00 oL00 dJ-", 3, 2, 1);
        turnsAre("g1 oH00 oL00 dJ-", 3, 2, 1);
        turnsAre("g1 oJ00 oL00 oL00 dJ-", 3, 2, 2);
        turnsAre("g1 oJ00 oA00 oA00 dJ-", 3, 9, 2);
        turnsAre("g1 oJ00 oA00 dJ-", 3, 0, 1);
        turnsAre("g1 oH00 oJ00 oL00 dI- dJ- dK-", 3, 1, 2);
    }

    private static void turnsRefused() {
        due.by("33: STATE: no BUYERS");
        ClothMarket nobody = Due.marketOf("g1 oA00");
        due.refuses("turns() of nobody", nobody, nobody::turns, Due.STATE);
        ClothMarket fresh = new ClothMarket();
        due.refuses("turns() of a new object", fresh, fresh::turns, Due.STATE);
    }
}
