/** Promises 12 to 17: buyer, stall, mark, want, price, wish. */
public final class MarketTest {
    private static final Due due = new Due();

    public static void main(String[] args) {
        buyer();
        stall();
        markRich();
        markOthers();
        markWrong();
        want();
        price();
        wish();
        due.end("MarketTest");
    }

    private static void buyer() {
        ClothMarket x = Due.marketOf("g4 oC15 bC1 rD0 dE- cF3 tG2 pH-");
        int[][] facts = {{0, 2, 1, 0}, {1, 3, 0, 0}, {2, 4, Due.NONE, 0}, {3, 5, 3, 0}, {4, 6, 2, 0}, {5, 7, Due.NONE, 0}};
        for (int i = 0; i < 6; i++) {
            for (int what = 0; what < 4; what++) {
                due.tells("buyer(" + i + ", " + what + ")", x, x.buyer(i, what), 1, facts[i][what]);
            }
        }
        due.refuses("buyer(6, 0)", x, () -> x.buyer(6, 0), Due.BAD);
        due.refuses("buyer(-1, 0)", x, () -> x.buyer(-1, 0), Due.BAD);
        due.refuses("buyer(0, 4)", x, () -> x.buyer(0, 4), Due.BAD);
        due.refuses("buyer(0, -1)", x, () -> x.buyer(0, -1), Due.BAD);
        ClothMarket y = Due.marketOf("g4 oC15 bC1 dF-");
        y.minutes(1);
        due.tells("buyer(0, 2) behind the sale", y, y.buyer(0, 2), 1, Due.NONE);
        due.tells("buyer(0, 3) behind the sale", y, y.buyer(0, 3), 1, 5);
    }

    private static void stall() {
        ClothMarket x = Due.marketOf("g4 oC15 oT39 bC1 dF-");
        int[][] facts = {{2, 1, 5, 0}, {19, 3, 9, 0}};
        for (int k = 0; k < 2; k++) {
            for (int what = 0; what < 4; what++) {
                due.tells("stall(" + k + ", " + what + ")", x, x.stall(k, what), 1, facts[k][what]);
            }
        }
        x.minutes(1);
        due.tells("stall(0, 3) behind the sale", x, x.stall(0, 3), 1, 1);
        due.refuses("stall(2, 0)", x, () -> x.stall(2, 0), Due.BAD);
        due.refuses("stall(-1, 0)", x, () -> x.stall(-1, 0), Due.BAD);
        due.refuses("stall(0, 4)", x, () -> x.stall(0, 4), Due.BAD);
        due.refuses("stall(0, -1)", x, () -> x.stall(0, -1), Due.BAD);
    }

    private static void marks(String text, int i, int kind, int answer) {
        ClothMarket x = Due.marketOf(text);
        due.is("mark(" + i + ", " + kind + ") of " + text, x.mark(i, kind), answer);
    }

    private static void markRich() {
        marks("g2 rC- bD- bE-", 0, 1, 2);
        marks("g2 pC- bD- bF-", 0, 1, 1);
        marks("g2 rC- bE- bF-", 0, 1, 0);
        marks("g1 bA- bB- rC- bD- bE-", 2, 1, 4);
        marks("g2 bA- bC- rE-", 2, 1, 2);
        marks("g2 bB- bC- rE-", 2, 1, 1);
        marks("g1 tA- bB- rC-", 2, 1, 1);
        marks("g1 bA- tB- rC-", 2, 1, 0);
        marks("g1 rC- tD- bE-", 0, 1, 2);
        marks("g2 rR- bS- bT-", 0, 1, 0);
        marks("g2 rT-", 0, 1, 0);
        marks("g2 rR- bS-", 0, 1, 1);
        marks("g2 rC- bD- rE-", 0, 1, 0);
        marks("g2 rC- bD- pE-", 0, 1, 0);
        marks("g2 rA- bC- rE-", 2, 1, 0);
        marks("g2 rB- bC- rE-", 2, 1, 1);
    }

    private static void markOthers() {
        marks("g4 bA- dC- bF-", 1, 2, 5);
        marks("g4 bA- tC- bT-", 1, 2, 19);
        marks("g4 bB- dC- bF-", 1, 2, 4);
        marks("g4 bB- dC-", 1, 2, 0);
        marks("g4 dA- bB-", 0, 2, 0);
        marks("g4 bA- dB-", 1, 2, 0);
        marks("g4 dB-", 0, 2, 0);
        marks("g4 oA35 oT35 oI05 cH0", 0, 3, 7);
        marks("g4 oA05 cH0", 0, 3, Due.NONE);
        marks("g4 oH35 cH0", 0, 3, 0);
        marks("g2 oA00 oB11 oC22 oF33 oG04 tD0", 0, 4, 3);
        marks("g1 tA0", 0, 4, 0);
        marks("g1 oD00 tD0", 0, 4, 1);
        marks("g4 oA05 oT15 oJ05 pH0", 0, 5, 2);
        marks("g4 oA05 pH1", 0, 5, Due.NONE);
        marks("g4 oA05 pH-", 0, 5, Due.NONE);
        marks("g4 oH25 pH2", 0, 5, 0);
    }

    private static void markWrong() {
        ClothMarket x = Due.marketOf("g4 bA- rB- dC- cD- tE- pF-");
        String are = "----- 1---- -2--- --3-- -2-4- 1---5";
        for (int i = 0; i < 6; i++) {
            for (int kind = 1; kind <= 5; kind++) {
                final int who = i, what = kind;
                if (are.charAt(i * 6 + kind - 1) == '-') {
                    due.finds("mark(" + i + ", " + kind + ")", x, () -> x.mark(who, what), Due.UNLIKE);
                } else {
                    due.is("mark(" + i + ", " + kind + ")", x.mark(i, kind) != Due.FINDING ? 1 : 0, 1);
                }
            }
        }
        due.refuses("mark(0, 0)", x, () -> x.mark(0, 0), Due.BAD);
        due.refuses("mark(0, 6)", x, () -> x.mark(0, 6), Due.BAD);
        due.refuses("mark(6, 1)", x, () -> x.mark(6, 1), Due.BAD);
        due.refuses("mark(-1, 1)", x, () -> x.mark(-1, 1), Due.BAD);
        due.is("asked() stays", x.asked(), 0);
    }

    private static void want() {
        ClothMarket x = Due.marketOf("g4 bA- rB2");
        due.is("want(0, 3)", x.want(0, 3), 4);
        due.is("want(0, 0)", x.want(0, 0), 3);
        due.is("want(1, 4)", x.want(1, 4), 2);
        due.is("want(1, 4) again", x.want(1, 4), 4);
        due.tells("buyer(0, 2)", x, x.buyer(0, 2), 1, 0);
        due.tells("buyer(1, 2)", x, x.buyer(1, 2), 1, Due.NONE);
        due.refuses("want(0, 5)", x, () -> x.want(0, 5), Due.BAD);
        due.refuses("want(0, -1)", x, () -> x.want(0, -1), Due.BAD);
        due.refuses("want(2, 0)", x, () -> x.want(2, 0), Due.BAD);
        due.refuses("want(-1, 0)", x, () -> x.want(-1, 0), Due.BAD);
    }

    private static void price() {
        ClothMarket x = Due.marketOf("g4 oA19 oB00");
        due.is("price(0, 99)", x.price(0, 99), 9);
        due.is("price(0, 0)", x.price(0, 0), 99);
        due.is("price(1, 5)", x.price(1, 5), 0);
        due.tells("stall(1, 2)", x, x.stall(1, 2), 1, 5);
        due.refuses("price(0, 100)", x, () -> x.price(0, 100), Due.BAD);
        due.refuses("price(0, -1)", x, () -> x.price(0, -1), Due.BAD);
        due.refuses("price(2, 1)", x, () -> x.price(2, 1), Due.BAD);
        due.refuses("price(-1, 1)", x, () -> x.price(-1, 1), Due.BAD);
    }

    private static void wishes(String text, int way) {
        ClothMarket x = Due.marketOf(text);
        due.tells("wish(0) of " + text, x, x.wish(0), 1, way);
    }

    private static void wish() {
        wishes("g1 oA00 oT00 bJ0", -1);
        wishes("g1 oA00 oT00 bK0", 1);
        wishes("g1 oT00 oA00 bK0", 1);
        wishes("g1 oT00 oA00 bJ0", -1);
        wishes("g1 oF05 oB05 bD0", -1);
        wishes("g1 oB05 oF05 bD0", -1);
        wishes("g1 oD05 oC15 bD0", 0);
        wishes("g1 oD05 oC15 bD1", -1);
        wishes("g1 oD05 bA1", 0);
        wishes("g1 oD05 bA-", 0);
        wishes("g1 oD35 bA-", 0);
        wishes("g1 oD05 rA0", 1);
        wishes("g1 oD05 pA0", 1);
        wishes("g1 oD05 dA0", 0);
        wishes("g1 oD05 tA0", 0);
        wishes("g1 oA05 oE35 cD0", 1);
        wishes("g1 oA05 oH35 cD0", -1);
        wishes("g1 oA35 oG05 cD0", -1);
        wishes("g1 oE35 cD-", 1);
        wishes("g1 oD35 oE05 cD0", 0);
        wishes("g1 oD05 oE35 cD1", 1);
        wishes("g1 oB35 oE35 cC3", -1);
        ClothMarket x = Due.marketOf("g1 bA-");
        due.refuses("wish(1)", x, () -> x.wish(1), Due.BAD);
        due.refuses("wish(-1)", x, () -> x.wish(-1), Due.BAD);
    }
}
