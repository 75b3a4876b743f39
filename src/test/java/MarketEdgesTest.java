/** The edges that promises 10 to 17 name, sentence by sentence: fault, market, buyer, stall, mark, want, price, wish. */
public final class MarketEdgesTest {
    private static final Due due = new Due();
    private static final int MIN = Integer.MIN_VALUE, MAX = Integer.MAX_VALUE;
    private static final String FULL = "g4 oA01 oB12 oC23 oD34 oE05 oT19 bA- rB0 dC1 cD2 tF3 pT0";

    public static void main(String[] args) {
        fault();
        faultRefused();
        market();
        marketAnew();
        keptMarketsGo();
        marketRefused();
        marketOfFault();
        buyer();
        buyerPaid();
        buyerRefused();
        stall();
        stallRefused();
        markOfRich();
        markOfBored();
        markOfChild();
        markOfThief();
        markOfPorter();
        markRefused();
        markUnlike();
        want();
        wantRefused();
        price();
        priceRefused();
        wish();
        due.end("MarketEdgesTest");
    }

    private static void fault() {
        due.by("10: A FAULT of a TEXT; NONE: there is none");
        ClothMarket x = Due.write(new ClothMarket(), 0, "g1");
        Due.write(x, 3, "g0");
        x.text(2, 0);
        x.row(0, 1);
        x.lay(0, 0, 6);
        x.lay(0, 0, 6);
        long digest = x.digest();
        due.is("fault(0)", x.fault(0), Due.NONE);
        due.is("fault(3)", x.fault(3), 1);
        due.is("fault(2) of none", x.fault(2), 0);
        due.is("nothing has changed", x.digest(), digest);
        due.is("asked() stays", x.asked(), 6);
        due.is("NONE is no FINDING", x.finding(), 0);
        ClothMarket busy = Due.behind("g4 oC15 bD1", 2);
        digest = busy.digest();
        due.is("fault(0) makes no MARKET", busy.fault(0), Due.NONE);
        due.is("fault(0) makes no MARKET: digest()", busy.digest(), digest);
    }

    private static void faultRefused() {
        due.by("10: BAD; NOTHING");
        ClothMarket x = Due.write(new ClothMarket(), 0, "g1");
        for (int t : new int[] {-1, 4, MIN, MAX}) {
            due.refuses("fault(" + t + ")", x, () -> x.fault(t), Due.BAD);
        }
        for (int t = 1; t <= 3; t++) {
            final int text = t;
            due.finds("fault(" + t + ")", x, () -> x.fault(text), Due.NOTHING);
        }
    }

    private static void market() {
        due.by("11: A MARKET by a TEXT: how many BUYERS");
        ClothMarket x = Due.write(new ClothMarket(), 3, FULL);
        due.is("market(3)", x.market(3), 6);
        due.is("BUYERS", x.count(0), 6);
        due.is("STALLS", x.count(1), 6);
        Due.write(x, 0, "g1 bA0");
        due.is("market(0)", x.market(0), 1);
        due.is("BUYERS", x.count(0), 1);
        due.is("STALLS", x.count(1), 0);
        Due.write(x, 1, "g1 oA00");
        due.is("market(1)", x.market(1), 0);
        due.is("BUYERS", x.count(0), 0);
        due.is("STALLS", x.count(1), 1);
        due.is("asked() is not told by it", x.asked(), 0);
        x.put(3, 0, 0);
        due.is("the TEXT may change then", x.count(1), 1);
    }

    private static void marketAnew() {
        due.by("11: (anew: MINUTE 0, nothing bought)");
        ClothMarket x = Due.behind("g4 oC15 bC1 dF-", 9);
        x.price(0, 77);
        x.turn(1);
        x.want(1, 3);
        due.is("market(0)", x.market(0), 2);
        ClothMarket fresh = Due.marketOf("g4 oC15 bC1 dF-");
        due.is("as a fresh one", x.digest(), fresh.digest());
        due.is("no MINUTE can be undone", x.undo(0), 0);
        due.tells("paid", x, x.buyer(0, 3), 1, 0);
        due.tells("sold", x, x.stall(0, 3), 1, 0);
        due.tells("PRICE", x, x.stall(0, 2), 1, 5);
        due.is("60 MINUTES from there", x.minutes(20) + x.minutes(20) + x.minutes(20), 1);
        due.refuses("and no more", x, () -> x.minutes(1), Due.FULL);
        due.is("all can be undone", x.undo(0), 60);
        due.is("as the fresh one", x.digest(), fresh.digest());
    }

    private static void keptMarketsGo() {
        due.by("11: (kept MARKETS go)");
        ClothMarket x = Due.behind("g4 oC15 bC1 dF-", 2);
        x.keep(0);
        x.keep(1);
        x.keep(2);
        x.on(1);
        due.is("market(0)", x.market(0), 2);
        due.is("kept MARKETS", x.count(5), 0);
        for (int k = 0; k < 3; k++) {
            final int place = k;
            due.finds("on(" + k + ")", x, () -> x.on(place), Due.NOTHING);
        }
        x.minutes(1);
        due.is("what was ahead of on() is forgotten", x.undo(0), 1);
    }

    private static void marketRefused() {
        due.by("11: BAD; NOTHING");
        ClothMarket x = Due.behind("g4 oC15 bC1 dF-", 1);
        for (int t : new int[] {-1, 4, MIN, MAX}) {
            due.refuses("market(" + t + ")", x, () -> x.market(t), Due.BAD);
        }
        for (int t = 1; t <= 3; t++) {
            final int text = t;
            due.finds("market(" + t + ")", x, () -> x.market(text), Due.NOTHING);
        }
    }

    private static void marketOfFault() {
        due.by("11: STATE: a FAULT. (STATE behind NOTHING.)");
        ClothMarket x = Due.behind("g4 oC15 bC1 dF-", 1);
        x.keep(2);
        x.minutes(3);
        x.text(1, 0);
        x.text(2, 80);
        Due.write(x, 3, "g1 oA00 bA0 bB0 b");
        for (int t = 1; t <= 3; t++) {
            final int text = t;
            due.refuses("market(" + t + ")", x, () -> x.market(text), Due.STATE);
        }
        due.is("the MINUTES stay", x.undo(2), 2);
        due.is("kept MARKETS stay", x.on(2), 1);
    }

    private static void buyer() {
        due.by("12: Of a BUYER: 0 the KIND, 1 the SPOT, 2 the GOOD wanted (NONE: nothing), 3 what was paid");
        ClothMarket x = Due.marketOf(FULL);
        int[][] facts = {{0, 0, Due.NONE, 0}, {1, 1, 0, 0}, {2, 2, 1, 0}, {3, 3, 2, 0}, {4, 5, 3, 0}, {5, 19, 0, 0}};
        for (int i = 0; i < 6; i++) {
            for (int what = 0; what < 4; what++) {
                due.tells("buyer(" + i + ", " + what + ")", x, x.buyer(i, what), 1, facts[i][what]);
            }
        }
    }

    private static void buyerPaid() {
        due.by("12: what was paid, told by asked(): 1");
        ClothMarket x = Due.marketOf("g4 oC15 bC1 dF-");
        x.price(0, 99);
        for (int sale = 0; sale <= 4; sale++) {
            due.tells("paid for " + sale, x, x.buyer(0, 3), 1, 99 * sale);
            due.tells("sold", x, x.stall(0, 3), 1, sale);
            x.want(0, 1);
            x.minutes(7);
        }
    }

    private static void buyerRefused() {
        due.by("12: BAD");
        ClothMarket x = Due.marketOf("g4 oC15 bC1 dF-");
        for (int i : new int[] {-1, 2, 5, 6, MIN, MAX}) {
            due.refuses("buyer(" + i + ", 0)", x, () -> x.buyer(i, 0), Due.BAD);
        }
        for (int what : new int[] {-1, 4, MIN, MAX}) {
            due.refuses("buyer(1, " + what + ")", x, () -> x.buyer(1, what), Due.BAD);
        }
        ClothMarket full = Due.marketOf(FULL);
        due.refuses("buyer(6, 0) of six", full, () -> full.buyer(6, 0), Due.BAD);
        due.refuses("buyer(5, 4) of six", full, () -> full.buyer(5, 4), Due.BAD);
    }

    private static void stall() {
        due.by("13: Of a STALL: 0 its SPOT, 1 GOOD, 2 PRICE, 3 how many bought there, told by asked(): 1");
        ClothMarket x = Due.marketOf(FULL);
        int[][] facts = {{0, 0, 1, 0}, {1, 1, 2, 0}, {2, 2, 3, 0}, {3, 3, 4, 0}, {4, 0, 5, 0}, {19, 1, 9, 0}};
        for (int k = 0; k < 6; k++) {
            for (int what = 0; what < 4; what++) {
                due.tells("stall(" + k + ", " + what + ")", x, x.stall(k, what), 1, facts[k][what]);
            }
        }
        ClothMarket y = Due.marketOf("g1 oT00 oC15 tC1 tD1 tE-");
        y.turn(0);
        y.minutes(3);
        due.tells("one came to it by a turn", y, y.stall(1, 3), 1, 1);
        y.turn(1);
        y.minutes(6);
        due.tells("another one came", y, y.stall(1, 3), 1, 2);
        due.tells("nobody at the other STALL", y, y.stall(0, 3), 1, 0);
    }

    private static void stallRefused() {
        due.by("13: BAD");
        ClothMarket x = Due.marketOf("g4 oC15 oD00 bC1");
        for (int k : new int[] {-1, 2, 5, 6, MIN, MAX}) {
            due.refuses("stall(" + k + ", 0)", x, () -> x.stall(k, 0), Due.BAD);
        }
        for (int what : new int[] {-1, 4, MIN, MAX}) {
            due.refuses("stall(1, " + what + ")", x, () -> x.stall(1, what), Due.BAD);
        }
        ClothMarket full = Due.marketOf(FULL);
        due.refuses("stall(6, 0) of six", full, () -> full.stall(6, 0), Due.BAD);
        ClothMarket none = Due.marketOf("g4 bC1");
        due.refuses("stall(0, 0) of none", none, () -> none.stall(0, 0), Due.BAD);
    }

    private static void marks(String text, int i, int kind, int answer) {
        ClothMarket x = Due.marketOf(text);
        long digest = x.digest();
        due.tells("mark(" + i + ", " + kind + ") of " + text, x, x.mark(i, kind), answer, 0);
        due.is("nothing has changed", x.digest(), digest);
    }

    private static void markOfRich() {
        due.by("14: a RICH one (PORTER, too) how many would be taken along by that one's STEP to the right");
        marks("g1 rC-", 0, 1, 0);
        marks("g1 rC- dD-", 0, 1, 1);
        marks("g2 rC- dD- dF-", 0, 1, 1);
        marks("g2 rC- dE-", 0, 1, 0);
        marks("g1 dB- rC-", 1, 1, 1);
        marks("g2 dB- rC-", 1, 1, 0);
        marks("g2 dA- rC-", 1, 1, 1);
        marks("g2 tA- rC-", 1, 1, 0);
        marks("g1 rC- tD-", 0, 1, 1);
        marks("g1 dA- dB- dC- dD- dE- rF-", 5, 1, 5);
        marks("g1 rA- dB- dC- dD- dE- dF-", 0, 1, 5);
        marks("g1 dA- dB- pC- dD- dE- dF-", 2, 1, 5);
        marks("g1 oA00 rB0 dC-", 0, 1, 1);
        due.by("14: (0, too, if it can't be)");
        marks("g1 rT-", 0, 1, 0);
        marks("g1 dS- rT-", 1, 1, 0);
        marks("g1 rS- dT-", 0, 1, 0);
        marks("g1 rR- dS-", 0, 1, 1);
        marks("g1 rC- rD-", 0, 1, 0);
        marks("g1 rC- dD- pE-", 0, 1, 0);
        marks("g1 rB- dC- rD- dE-", 2, 1, 0);
        marks("g2 rB- dC- rE- dF-", 2, 1, 2);
        marks("g1 rB- dC- rD- dE-", 0, 1, 0);
    }

    private static void markOfBored() {
        due.by("14: a BORED one (THIEF, too) how far the neighbours are from each other (0: not both are there)");
        marks("g1 bA- dB- bC-", 1, 2, 2);
        marks("g4 bA- dE- bI-", 1, 2, 8);
        marks("g1 tA- dJ- tT-", 1, 2, 19);
        marks("g1 bA- tB- bT-", 1, 2, 19);
        marks("g1 bA- tB-", 1, 2, 0);
        marks("g1 tA- bB-", 0, 2, 0);
        marks("g1 dA-", 0, 2, 0);
        marks("g1 dA- bB- bC-", 0, 2, 0);
        marks("g1 bA- bB- dC-", 2, 2, 0);
        marks("g1 bA- bB- bC- bD- dE- bF-", 4, 2, 2);
        marks("g1 bA- bB- bC- bD- bE- dF-", 5, 2, 0);
    }

    private static void markOfChild() {
        due.by("14: a CHILD how far the nearest sweets are (NONE: none)");
        marks("g1 oA30 cA0", 0, 3, 0);
        marks("g1 oT30 cA-", 0, 3, 19);
        marks("g1 oA30 cT3", 0, 3, 19);
        marks("g1 oA30 oT30 cK3", 0, 3, 9);
        marks("g1 oT30 oA30 cJ3", 0, 3, 9);
        marks("g1 oA00 oB10 oC20 cA0", 0, 3, Due.NONE);
        marks("g1 cA3", 0, 3, Due.NONE);
    }

    private static void markOfThief() {
        due.by("14: a THIEF how many STALLS are within REACH");
        for (int reach = 1; reach <= 4; reach++) {
            char near = (char) ('J' - reach), far = (char) ('J' + reach);
            marks("g" + reach + " o" + near + "00 o" + far + "10 tJ-", 0, 4, 2);
            marks("g" + reach + " o" + (char) (near - 1) + "00 o" + (char) (far + 1) + "10 tJ-", 0, 4, 0);
        }
        marks("g1 oJ00 oJ00 oJ10 oJ20 oJ30 oJ39 tJ-", 0, 4, 6);
        marks("g1 tJ0", 0, 4, 0);
    }

    private static void markOfPorter() {
        due.by("14: a PORTER how far the nearest STALL of what that one wants is (NONE)");
        marks("g1 oA00 pA0", 0, 5, 0);
        marks("g1 oT00 pA0", 0, 5, 19);
        marks("g1 oA00 pT0", 0, 5, 19);
        marks("g1 oA00 oT00 pK0", 0, 5, 9);
        marks("g1 oA00 oT00 pJ0", 0, 5, 9);
        marks("g1 oA00 oT30 pK0", 0, 5, 10);
        marks("g1 oA10 pA0", 0, 5, Due.NONE);
        marks("g1 oA00 pA-", 0, 5, Due.NONE);
        marks("g1 pA0", 0, 5, Due.NONE);
    }

    private static void markRefused() {
        due.by("14: BAD: also KIND 0");
        for (int i = 0; i < 6; i++) {
            ClothMarket x = Due.marketOf("g4 bA- rB- dC- cD- tE- pF-");
            for (int kind : new int[] {0, -1, 6, MIN, MAX}) {
                final int who = i;
                due.refuses("mark(" + i + ", " + kind + ")", x, () -> x.mark(who, kind), Due.BAD);
            }
        }
        for (int i : new int[] {-1, 6, MIN, MAX}) {
            ClothMarket x = Due.marketOf("g4 bA- rB- dC- cD- tE- pF-");
            due.refuses("mark(" + i + ", 1)", x, () -> x.mark(i, 1), Due.BAD);
        }
        ClothMarket one = Due.marketOf("g4 rB-");
        due.refuses("mark(1, 1) of one", one, () -> one.mark(1, 1), Due.BAD);
    }

    private static void markUnlike() {
        due.by("14: What a BUYER that IS of a KIND tells; UNLIKE");
        ClothMarket x = Due.marketOf("g4 bA- rB- dC- cD- tE- pF-");
        boolean[][] is = new boolean[6][6];
        is[1][1] = is[2][2] = is[3][3] = is[4][4] = is[5][5] = true;
        is[4][2] = true;
        is[5][1] = true;
        for (int i = 0; i < 6; i++) {
            for (int kind = 1; kind <= 5; kind++) {
                final int who = i, what = kind;
                if (is[i][kind]) {
                    due.is("mark(" + i + ", " + kind + ") is answered", x.mark(i, kind) == Due.FINDING ? 1 : 0, 0);
                } else {
                    due.finds("mark(" + i + ", " + kind + ")", x, () -> x.mark(who, what), Due.UNLIKE);
                }
            }
        }
    }

    private static void want() {
        due.by("15: A BUYER wants a GOOD (0 .. 3; 4: nothing): what that one wanted (4: nothing)");
        ClothMarket x = Due.marketOf("g4 bA- rB0 dC1 cD2 tE3 pF-");
        int[] wanted = {4, 0, 1, 2, 3, 4};
        for (int i = 0; i < 6; i++) {
            due.is("want(" + i + ", 3)", x.want(i, 3), wanted[i]);
            due.is("want(" + i + ", 0)", x.want(i, 0), 3);
            due.is("want(" + i + ", 4)", x.want(i, 4), 0);
            due.is("want(" + i + ", 4) again", x.want(i, 4), 4);
            due.tells("buyer(" + i + ", 2)", x, x.buyer(i, 2), 1, Due.NONE);
        }
        due.is("nobody wants", x.count(8), 0);
    }

    private static void wantRefused() {
        due.by("15: BAD");
        ClothMarket x = Due.marketOf("g4 bA- rB0");
        for (int i : new int[] {-1, 2, 6, MIN, MAX}) {
            due.refuses("want(" + i + ", 0)", x, () -> x.want(i, 0), Due.BAD);
        }
        for (int good : new int[] {-1, 5, Due.NONE, MIN, MAX}) {
            due.refuses("want(1, " + good + ")", x, () -> x.want(1, good), Due.BAD);
        }
        due.tells("it stays", x, x.buyer(1, 2), 1, 0);
    }

    private static void price() {
        due.by("16: The PRICE of a STALL is v (0 .. 99): what it was");
        ClothMarket x = Due.marketOf(FULL);
        int[] was = {1, 2, 3, 4, 5, 9};
        for (int k = 0; k < 6; k++) {
            due.is("price(" + k + ", 99)", x.price(k, 99), was[k]);
            due.is("price(" + k + ", 0)", x.price(k, 0), 99);
            due.is("price(" + k + ", 0) again", x.price(k, 0), 0);
            due.is("price(" + k + ", 10)", x.price(k, 10 + k), 0);
        }
        for (int k = 0; k < 6; k++) {
            due.tells("PRICE of " + k, x, x.stall(k, 2), 1, 10 + k);
        }
    }

    private static void priceRefused() {
        due.by("16: BAD");
        ClothMarket x = Due.marketOf("g4 oA07 oB18 bA-");
        for (int k : new int[] {-1, 2, 6, MIN, MAX}) {
            due.refuses("price(" + k + ", 0)", x, () -> x.price(k, 0), Due.BAD);
        }
        for (int v : new int[] {-1, 100, MIN, MAX}) {
            due.refuses("price(1, " + v + ")", x, () -> x.price(1, v), Due.BAD);
        }
        due.tells("it stays", x, x.stall(1, 2), 1, 8);
    }

    private static void wish() {
        due.by("17: THE WISH of a BUYER, told by asked(): 1. BAD");
        ClothMarket x = Due.marketOf("g4 oC00 oE30 bA0 rB- dC0 cD0 tE0 pF0");
        int[] ways = {1, 0, 0, -1, 0, -1};
        for (int i = 0; i < 6; i++) {
            due.tells("wish(" + i + ")", x, x.wish(i), 1, ways[i]);
        }
        for (int i : new int[] {-1, 6, MIN, MAX}) {
            due.refuses("wish(" + i + ")", x, () -> x.wish(i), Due.BAD);
        }
        x.want(1, 3);
        due.tells("as it is now: by another want", x, x.wish(1), 1, 1);
        x.turn(1);
        x.turn(1);
        due.tells("as it is now: from another SPOT", x, x.wish(0), 1, 0);
    }
}
