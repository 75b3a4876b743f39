/** Promises 18 to 24: minutes, undo, turn, shade, shaded, keep, on. */
public final class MinutesTest {
    private static final Due due = new Due();

    public static void main(String[] args) {
        stepsOfPlainOnes();
        stepsOfRichOnes();
        sales();
        minutesRefused();
        undo();
        undoOfWhatWasChanged();
        turn();
        shade();
        keepAndOn();
        due.end("MinutesTest");
    }

    /** SPOTS, as letters, behind n MINUTES. */
    private static void goes(String text, int n, String spots) {
        ClothMarket x = Due.marketOf(text);
        x.minutes(n);
        StringBuilder s = new StringBuilder();
        for (int i = 0; i < x.count(0); i++) {
            x.buyer(i, 1);
            s.append((char) ('A' + x.asked()));
        }
        due.is(text + " behind " + n + " is at " + s + ", due is " + spots, s.toString().equals(spots) ? 1 : 0, 1);
    }

    private static void stepsOfPlainOnes() {
        goes("g1 oA00 bD0", 1, "C");
        goes("g1 oA00 bD0", 3, "A");
        goes("g1 oA00 bD0", 4, "A");
        goes("g1 oA00 bC0 bD-", 1, "CD");
        goes("g2 oA00 bC0 bD-", 1, "BD");
        goes("g2 oA00 bC0 bD-", 2, "BD");
        goes("g3 oA00 bB0 bC0", 1, "AB");
        goes("g3 oT00 bB0 bC0", 1, "BD");
        goes("g3 oT00 bB0 bC0", 2, "CE");
        goes("g1 oA00 tD0", 2, "D");
        goes("g1 oA00 dD0", 2, "D");
        goes("g1 oA00 bD0 tE-", 3, "AE");
        goes("g1 oT00 tD- bE0", 5, "DJ");
        goes("g4 oT00 bD0 tE-", 5, "DE");
        goes("g1 oF05 oA15 cD-", 2, "D");
        goes("g1 oF35 oA15 cD-", 2, "F");
    }

    private static void stepsOfRichOnes() {
        goes("g2 oT01 rC0 bD- bE-", 1, "DEF");
        goes("g2 oT01 pC0 bD- bE-", 1, "EFG");
        goes("g1 oA01 rC0 bD- bE-", 1, "BCD");
        goes("g1 oA01 pC0 bD- bE-", 1, "ABC");
        goes("g1 oB01 pC0 bD- bE-", 1, "BCD");
        goes("g1 oA01 bA- bB- rC0", 1, "ABC");
        goes("g2 oA01 bB- rC0", 2, "AB");
        goes("g2 oT01 rR0 bS- bT-", 1, "RST");
        goes("g1 oT01 rJ0 bK- rL-", 1, "JKL");
        goes("g1 oA01 bI- bJ- rK0", 1, "HIJ");
        goes("g1 oA01 rC0 tD- bE-", 1, "BDE");
        goes("g1 oT01 rC0 tD- bE-", 1, "DEF");
        goes("g2 oT01 bC- rE0 bG-", 1, "DFG");
        // RICH ones go ahead of all others, though their numbers are higher.
        goes("g2 oT01 oA12 bC1 rE0", 1, "DF");
        goes("g4 oT01 bC0 rD0", 1, "DE");
        // A PORTER's second STEP comes at once, ahead of the next RICH one: here that one is in its way, then out of it.
        goes("g4 oT01 pC0 rE0", 1, "DF");
        goes("g4 oT01 rC0 pE0", 1, "DG");
        goes("g4 oA01 pE0 rF0", 1, "CE");
    }

    private static void sales() {
        ClothMarket x = Due.marketOf("g4 oC15 bD1");
        due.is("minutes(2): not shaded", x.minutes(2), 0);
        due.is("minutes(1): THE SUN is 0", x.minutes(1), 1);
        due.tells("paid", x, x.buyer(0, 3), 1, 5);
        due.tells("wants nothing", x, x.buyer(0, 2), 1, Due.NONE);
        due.tells("sold", x, x.stall(0, 3), 1, 1);
        due.is("minutes(20): no more", x.minutes(20), 0);
        x.want(0, 1);
        due.is("minutes(20): once more", x.minutes(20), 1);
        due.tells("paid twice", x, x.buyer(0, 3), 1, 10);
        ClothMarket y = Due.marketOf("g4 oC15 oF27 bC1 dF2");
        due.is("BUYER 0 in the first MINUTE", y.minutes(1), 1);
        due.is("a BORED one BUYS, too", y.minutes(2), 1);
        due.tells("paid by the BORED one", y, y.buyer(1, 3), 1, 7);
        ClothMarket z = Due.marketOf("g1 oD12 oC04 oC16 oC17 bC1");
        due.is("minutes(3)", z.minutes(3), 1);
        due.tells("the first such STALL", z, z.stall(2, 3), 1, 1);
        due.tells("its PRICE", z, z.buyer(0, 3), 1, 6);
        ClothMarket c = Due.marketOf("g1 oC35 cC0 dD-");
        due.is("a CHILD BUYS no sweets that it does not want", c.minutes(20), 0);
        ClothMarket two = Due.marketOf("g4 oC15 oF17 bC1 dF1");
        due.is("two in 3 MINUTES", two.minutes(3), 2);
        due.is("minutes(0)", two.minutes(0), 0);
        due.is("the MINUTE", two.count(2), 3);
    }

    private static void minutesRefused() {
        ClothMarket none = new ClothMarket();
        due.refuses("minutes(1) of nobody", none, () -> none.minutes(1), Due.STATE);
        due.refuses("minutes(21) of nobody", none, () -> none.minutes(21), Due.BAD);
        ClothMarket x = Due.marketOf("g1 bA-");
        due.refuses("minutes(21)", x, () -> x.minutes(21), Due.BAD);
        due.refuses("minutes(-1)", x, () -> x.minutes(-1), Due.BAD);
        x.minutes(20);
        x.minutes(20);
        x.minutes(19);
        due.refuses("minutes(2) at 59", x, () -> x.minutes(2), Due.FULL);
        due.is("minutes(1) at 59", x.minutes(1), 0);
        due.is("minutes(0) at 60", x.minutes(0), 0);
        due.refuses("minutes(1) at 60", x, () -> x.minutes(1), Due.FULL);
        due.refuses("minutes(21) at 60", x, () -> x.minutes(21), Due.BAD);
        due.is("undo(0) at 60", x.undo(0), 60);
        due.is("the MINUTE", x.count(2), 0);
    }

    private static void undo() {
        ClothMarket x = Due.marketOf("g4 oC15 bD1");
        long[] digests = new long[9];
        for (int m = 0; m < 9; m++) {
            digests[m] = x.digest();
            x.minutes(1);
        }
        due.is("undo(9): none", x.undo(9), 0);
        due.is("the MINUTE", x.count(2), 9);
        due.is("undo(8)", x.undo(8), 1);
        due.is("as at 8", x.digest(), digests[8]);
        due.is("undo(3)", x.undo(3), 5);
        due.is("as at 3", x.digest(), digests[3]);
        due.is("undo(2): not bought yet", x.undo(2), 1);
        due.is("as at 2", x.digest(), digests[2]);
        due.tells("wants again", x, x.buyer(0, 2), 1, 1);
        due.tells("paid nothing", x, x.buyer(0, 3), 1, 0);
        due.tells("nothing sold", x, x.stall(0, 3), 1, 0);
        due.refuses("undo(3) at 2", x, () -> x.undo(3), Due.BAD);
        due.refuses("undo(-1)", x, () -> x.undo(-1), Due.BAD);
        due.is("undo(0)", x.undo(0), 2);
        due.is("as at 0", x.digest(), digests[0]);
        due.is("undo(0) again", x.undo(0), 0);
        ClothMarket none = new ClothMarket();
        due.is("undo(0) of nobody", none.undo(0), 0);
        due.refuses("undo(1) of nobody", none, () -> none.undo(1), Due.BAD);
    }

    private static void undoOfWhatWasChanged() {
        ClothMarket x = Due.marketOf("g4 oC15 oT22 bJ1");
        x.minutes(2);
        x.want(0, 2);
        x.turn(1);
        x.price(0, 50);
        x.minutes(1);
        due.is("undo(2)", x.undo(2), 1);
        due.tells("the want from ahead of MINUTE 2", x, x.buyer(0, 2), 1, 2);
        due.tells("the SPOT from ahead of MINUTE 2", x, x.buyer(0, 1), 1, 8);
        due.is("undo(1)", x.undo(1), 1);
        due.tells("the want from ahead of MINUTE 1", x, x.buyer(0, 2), 1, 1);
        due.tells("the SPOT from ahead of MINUTE 1", x, x.buyer(0, 1), 1, 8);
        due.tells("PRICES stay", x, x.stall(0, 2), 1, 50);
        x.want(0, 3);
        x.turn(0);
        due.is("undo(1): all stays", x.undo(1), 0);
        due.tells("the want stays", x, x.buyer(0, 2), 1, 3);
        due.tells("the SPOT stays", x, x.buyer(0, 1), 1, 7);
    }

    private static void turn() {
        ClothMarket x = Due.marketOf("g4 rB- tC- dS-");
        due.is("turn(0)", x.turn(0), 1);
        due.tells("all went left", x, x.buyer(0, 1), 1, 0);
        due.tells("all went left", x, x.buyer(1, 1), 1, 1);
        due.tells("all went left", x, x.buyer(2, 1), 1, 17);
        due.is("turn(0): no SPOT", x.turn(0), 0);
        due.tells("nobody went", x, x.buyer(2, 1), 1, 17);
        due.is("turn(1)", x.turn(1), 1);
        due.is("turn(1)", x.turn(1), 1);
        due.is("turn(1): no SPOT", x.turn(1), 0);
        due.tells("nobody went", x, x.buyer(0, 1), 1, 2);
        due.tells("at the end", x, x.buyer(2, 1), 1, 19);
        due.is("no MINUTE", x.count(2), 0);
        ClothMarket six = Due.marketOf("g1 bA- bB- bC- bD- bE- bF-");
        due.is("turn(1) of six", six.turn(1), 1);
        due.tells("the sixth went, too", six, six.buyer(5, 1), 1, 6);
        due.refuses("turn(2)", x, () -> x.turn(2), Due.BAD);
        due.refuses("turn(-1)", x, () -> x.turn(-1), Due.BAD);
        ClothMarket none = new ClothMarket();
        due.refuses("turn(0) of nobody", none, () -> none.turn(0), Due.STATE);
        due.refuses("turn(2) of nobody", none, () -> none.turn(2), Due.BAD);
    }

    private static void shade() {
        ClothMarket x = Due.marketOf("g4 oC15 oF27 oA00 oG00 bC- dF-");
        int[] first = {-1, 0, 1, 2, 3, 4, 5, -1, 0};
        int[] stalls = {5, 5, 1, 3, 10, 10, 10, 5, 5};
        for (int m = 0; m < 9; m++) {
            due.tells("shade() at " + m, x, x.shade(), 4, first[m]);
            due.is("shaded() at " + m, x.shaded(), stalls[m]);
            x.minutes(1);
        }
        ClothMarket none = Due.marketOf("g1 oA00");
        due.refuses("shade() of nobody", none, none::shade, Due.STATE);
        due.is("shaded() of nobody", none.shaded(), 0);
        due.is("shaded() of a new object", new ClothMarket().shaded(), 0);
        ClothMarket far = Due.marketOf("g1 tA- tT-");
        far.minutes(6);
        due.tells("shade() beyond the ground", far, far.shade(), 20, 3);
    }

    private static void keepAndOn() {
        ClothMarket x = Due.marketOf("g4 oC15 bD1");
        due.is("keep(0)", x.keep(0), 0);
        x.minutes(2);
        due.is("keep(1)", x.keep(1), 2);
        due.is("kept", x.count(5), 2);
        x.price(0, 70);
        x.row(0, 3);
        x.minutes(3);
        due.is("on(1)", x.on(1), 2);
        due.is("the MINUTE", x.count(2), 2);
        due.tells("the PRICE as it was kept", x, x.stall(0, 2), 1, 5);
        due.tells("the want as it was kept", x, x.buyer(0, 2), 1, 1);
        due.tells("paid as it was kept", x, x.buyer(0, 3), 1, 0);
        due.tells("sold as it was kept", x, x.stall(0, 3), 1, 0);
        due.is("ROWS stay", x.count(6), 1);
        due.refuses("undo(1) ahead of on()", x, () -> x.undo(1), Due.BAD);
        due.is("undo(2)", x.undo(2), 0);
        due.is("it goes on: BUYS", x.minutes(1), 1);
        due.is("undo(2)", x.undo(2), 1);
        due.is("on(0)", x.on(0), 0);
        due.tells("the SPOT as it was kept", x, x.buyer(0, 1), 1, 3);
        due.is("still kept", x.count(5), 2);
        due.is("on(1) again", x.on(1), 2);
        due.is("keep(0) over it", x.keep(0), 2);
        due.is("on(0)", x.on(0), 2);
        due.finds("on(2)", x, () -> x.on(2), Due.NOTHING);
        due.refuses("on(3)", x, () -> x.on(3), Due.BAD);
        due.refuses("on(-1)", x, () -> x.on(-1), Due.BAD);
        due.refuses("keep(3)", x, () -> x.keep(3), Due.BAD);
        due.refuses("keep(-1)", x, () -> x.keep(-1), Due.BAD);
        ClothMarket none = new ClothMarket();
        due.refuses("keep(0) of nobody", none, () -> none.keep(0), Due.STATE);
        due.refuses("keep(3) of nobody", none, () -> none.keep(3), Due.BAD);
    }
}
