/** The edges that promises 18 to 24 name, sentence by sentence: minutes, undo, turn, shade, shaded, keep, on. */
public final class MinutesEdgesTest {
    private static final Due due = new Due();
    private static final int MIN = Integer.MIN_VALUE, MAX = Integer.MAX_VALUE;
    private static final String ONE = "g4 oC15 bD1";

    public static void main(String[] args) {
        minutes();
        minutesRefused();
        minutesFull();
        fullLast();
        undoAll();
        undoNone();
        undoTwice();
        undoOfSteps();
        pricesStay();
        undoRefused();
        undoAheadOfOn();
        turn();
        turnNot();
        turnIsNoMinute();
        turnRefused();
        shade();
        shadeOfNobody();
        shaded();
        shadedOfNone();
        keep();
        keepAllBut();
        keepRefused();
        on();
        onTwice();
        onRefused();
        due.end("MinutesEdgesTest");
    }

    private static void minutes() {
        due.by("18: n (0 .. 20) MINUTES go by: how many have bought in these");
        for (int n = 0; n <= 20; n++) {
            ClothMarket x = Due.marketOf(ONE);
            due.is("minutes(" + n + ")", x.minutes(n), n < 3 ? 0 : 1);
            due.is("the MINUTE", x.count(2), n);
            due.is("minutes(" + n + ") again", x.minutes(n), n == 2 ? 1 : 0);
            due.is("the MINUTE", x.count(2), 2 * n);
            due.is("asked() is not told by it", x.asked(), 0);
        }
        ClothMarket six = Due.marketOf("g1 oA00 oB10 oC20 oD30 oE00 oF10 dA0 dB1 dC2 tD3 dE0 tF1");
        due.is("six in 3", six.minutes(3), 6);
        due.is("none is left", six.minutes(20), 0);
        ClothMarket still = Due.marketOf("g1 oA00 dA0 dB1 dC2 tD3 dE0 tF1");
        due.is("one of six in 20", still.minutes(20), 1);
    }

    private static void minutesRefused() {
        due.by("18: BAD; STATE: no BUYERS");
        ClothMarket x = Due.behind(ONE, 1);
        for (int n : new int[] {-1, 21, 22, 60, MIN, MAX}) {
            due.refuses("minutes(" + n + ")", x, () -> x.minutes(n), Due.BAD);
        }
        ClothMarket nobody = Due.marketOf("g1 oA00");
        due.refuses("minutes(0) of nobody", nobody, () -> nobody.minutes(0), Due.STATE);
        due.refuses("minutes(20) of nobody", nobody, () -> nobody.minutes(20), Due.STATE);
        due.refuses("minutes(21) of nobody", nobody, () -> nobody.minutes(21), Due.BAD);
        due.refuses("minutes(-1) of nobody", nobody, () -> nobody.minutes(-1), Due.BAD);
    }

    private static void minutesFull() {
        due.by("18: FULL: MINUTE 60 would be passed");
        for (int left = 0; left <= 20; left++) {
            ClothMarket x = Due.marketOf(ONE);
            x.minutes(20);
            x.minutes(20);
            x.minutes(20 - left);
            for (int n = left + 1; n <= 20; n += 3) {
                final int many = n;
                due.refuses("minutes(" + n + ") at " + (60 - left), x, () -> x.minutes(many), Due.FULL);
            }
            due.is("minutes(" + left + ") at " + (60 - left), x.minutes(left), 0);
            due.is("the MINUTE", x.count(2), 60);
            due.is("minutes(0) at 60", x.minutes(0), 0);
            due.refuses("minutes(1) at 60", x, () -> x.minutes(1), Due.FULL);
            due.is("undo(59) at 60", x.undo(59), 1);
            due.is("minutes(1) at 59", x.minutes(1), 0);
            due.is("undo(0) at 60", x.undo(0), 60);
            due.is("minutes(20) at 0", x.minutes(20), 1);
        }
    }

    private static void fullLast() {
        due.by("18: (FULL last.)");
        ClothMarket x = Due.marketOf(ONE);
        x.minutes(20);
        x.minutes(20);
        x.minutes(20);
        due.refuses("minutes(21) at 60", x, () -> x.minutes(21), Due.BAD);
        due.refuses("minutes(-1) at 60", x, () -> x.minutes(-1), Due.BAD);
        due.refuses("minutes(20) at 60", x, () -> x.minutes(20), Due.FULL);
        Due.write(x, 1, "g1 oA00");
        x.market(1);
        due.refuses("minutes(20) of nobody", x, () -> x.minutes(20), Due.STATE);
    }

    private static void undoAll() {
        due.by("19: MINUTES from number n (0 .. the MINUTE) on are undone (SPOTS, wants, what was paid, bought): how many");
        String text = "g2 oH15 oD26 oB07 oS39 rB1 bD2 dE1 cF0 tH1 pJ3";
        for (int n = 0; n <= 20; n++) {
            ClothMarket x = Due.marketOf(text);
            ClothMarket twin = Due.marketOf(text);
            x.minutes(20);
            twin.minutes(n);
            due.is("undo(" + n + ") at 20", x.undo(n), 20 - n);
            due.is("as it was: digest()", x.digest(), twin.digest());
            due.is("it goes on alike", x.minutes(7), twin.minutes(7));
            due.is("it goes on alike: digest()", x.digest(), twin.digest());
        }
        ClothMarket far = Due.marketOf(text);
        long begin = far.digest();
        far.minutes(20);
        far.minutes(20);
        far.minutes(20);
        due.is("undo(0) at 60", far.undo(0), 60);
        due.is("undo(0) at 60: digest()", far.digest(), begin);
    }

    private static void undoNone() {
        due.by("19: the MINUTE: none then, all stays");
        ClothMarket fresh = Due.marketOf(ONE);
        fresh.turn(0);
        fresh.want(0, 3);
        long digest = fresh.digest();
        due.is("undo(0) at 0", fresh.undo(0), 0);
        due.is("undo(0) at 0: digest()", fresh.digest(), digest);
        ClothMarket x = Due.behind(ONE, 4);
        x.turn(0);
        x.want(0, 3);
        digest = x.digest();
        due.is("undo(4) at 4", x.undo(4), 0);
        due.is("undo(4) at 4: digest()", x.digest(), digest);
        due.is("undo(0) of a new object", new ClothMarket().undo(0), 0);
        due.is("undo(0) of nobody", Due.marketOf("g1 oA00").undo(0), 0);
    }

    private static void undoTwice() {
        due.by("19: MINUTES from number n on: one behind the other, and what went by anew");
        ClothMarket x = Due.marketOf(ONE);
        long[] digests = new long[6];
        for (int m = 0; m < 6; m++) {
            digests[m] = x.digest();
            x.minutes(1);
        }
        for (int m = 5; m >= 0; m--) {
            due.is("undo(" + m + ")", x.undo(m), 1);
            due.is("undo(" + m + "): digest()", x.digest(), digests[m]);
        }
        x.want(0, 0);
        x.minutes(2);
        long other = x.digest();
        x.minutes(1);
        due.is("undo(2) behind another want", x.undo(2), 1);
        due.is("digest()", x.digest(), other);
    }

    private static void undoOfSteps() {
        due.by("19: MINUTES are undone: what stood ahead of MINUTE n is back, a turn() and a want() ahead of it too");
        ClothMarket x = Due.marketOf("g4 oA00 oT12 bJ0 dK-");
        x.minutes(1);
        x.want(0, 1);
        x.turn(1);
        x.minutes(1);
        x.turn(1);
        x.want(1, 2);
        due.standAt("at 2", x, "LM");
        due.is("undo(1)", x.undo(1), 1);
        due.standAt("behind undo(1)", x, "JL");
        due.tells("the want from ahead of MINUTE 1", x, x.buyer(0, 2), 1, 1);
        due.tells("the want from behind it is gone", x, x.buyer(1, 2), 1, Due.NONE);
        due.is("undo(0)", x.undo(0), 1);
        due.standAt("behind undo(0)", x, "JK");
        due.tells("the want from ahead of MINUTE 0", x, x.buyer(0, 2), 1, 0);
    }

    private static void pricesStay() {
        due.by("19: PRICES stay");
        ClothMarket x = Due.behind(ONE, 3);
        x.price(0, 50);
        x.want(0, 1);
        x.minutes(7);
        due.tells("paid", x, x.buyer(0, 3), 1, 55);
        due.is("undo(2)", x.undo(2), 8);
        due.tells("the PRICE", x, x.stall(0, 2), 1, 50);
        due.tells("paid", x, x.buyer(0, 3), 1, 0);
        due.tells("sold", x, x.stall(0, 3), 1, 0);
        due.is("BUYS once more", x.minutes(1), 1);
        due.tells("paid by the PRICE as it is", x, x.buyer(0, 3), 1, 50);
    }

    private static void undoRefused() {
        due.by("19: BAD");
        ClothMarket x = Due.behind(ONE, 4);
        for (int n : new int[] {-1, 5, 6, 60, MIN, MAX}) {
            due.refuses("undo(" + n + ")", x, () -> x.undo(n), Due.BAD);
        }
        due.is("undo(3)", x.undo(3), 1);
        due.refuses("undo(4) at 3", x, () -> x.undo(4), Due.BAD);
        ClothMarket fresh = new ClothMarket();
        due.refuses("undo(1) of a new object", fresh, () -> fresh.undo(1), Due.BAD);
        due.refuses("undo(-1) of a new object", fresh, () -> fresh.undo(-1), Due.BAD);
    }

    private static void undoAheadOfOn() {
        due.by("19: BAD (also one ahead of on())");
        ClothMarket x = Due.behind(ONE, 2);
        x.keep(0);
        x.minutes(5);
        x.on(0);
        due.refuses("undo(1)", x, () -> x.undo(1), Due.BAD);
        due.refuses("undo(0)", x, () -> x.undo(0), Due.BAD);
        due.is("undo(2)", x.undo(2), 0);
        due.refuses("undo(3)", x, () -> x.undo(3), Due.BAD);
        x.minutes(3);
        due.refuses("undo(1) 3 on", x, () -> x.undo(1), Due.BAD);
        due.is("undo(2) 3 on", x.undo(2), 3);
        due.is("the MINUTE", x.count(2), 2);
        x.market(0);
        x.minutes(2);
        due.is("undo(0) behind market()", x.undo(0), 2);
    }

    private static void turn() {
        due.by("20: All go 1 by a way (0 left, 1 right), if each can (a SPOT): 1");
        ClothMarket x = Due.marketOf("g1 rB- bC- dD- cE- tG- pS-");
        due.is("turn(0)", x.turn(0), 1);
        due.standAt("turn(0)", x, "ABCDFR");
        due.is("turn(1)", x.turn(1), 1);
        due.standAt("turn(1)", x, "BCDEGS");
        due.is("turn(1)", x.turn(1), 1);
        due.standAt("turn(1)", x, "CDEFHT");
        ClothMarket one = Due.marketOf("g1 tA0");
        for (int n = 1; n <= 19; n++) {
            due.is("turn(1) to " + n, one.turn(1), 1);
            due.standAt("turn(1) to " + n, one, String.valueOf((char) ('A' + n)));
        }
        due.is("turn(1) at 19", one.turn(1), 0);
    }

    private static void turnNot() {
        due.by("20: 0: not (nobody goes)");
        ClothMarket left = Due.marketOf("g4 tA- bC- bD-");
        long digest = left.digest();
        due.is("turn(0) at A", left.turn(0), 0);
        due.is("turn(0) at A: digest()", left.digest(), digest);
        due.is("turn(1) at A", left.turn(1), 1);
        ClothMarket right = Due.marketOf("g4 bR- tS- bT-");
        digest = right.digest();
        due.is("turn(1) at T", right.turn(1), 0);
        due.is("turn(1) at T: digest()", right.digest(), digest);
        due.is("turn(0) at T", right.turn(0), 1);
        ClothMarket all = Due.marketOf("g4 tA- tT-");
        due.is("turn(0) of all the ground", all.turn(0), 0);
        due.is("turn(1) of all the ground", all.turn(1), 0);
    }

    private static void turnIsNoMinute() {
        due.by("20: (No MINUTE goes by.)");
        ClothMarket x = Due.marketOf("g4 oC15 tD1 tG-");
        x.minutes(3);
        due.is("turn(0)", x.turn(0), 1);
        due.is("the MINUTE", x.count(2), 3);
        due.tells("nobody BUYS", x, x.stall(0, 3), 1, 0);
        due.is("as many to undo", x.undo(0), 3);
    }

    private static void turnRefused() {
        due.by("20: BAD; STATE: no BUYERS");
        ClothMarket x = Due.marketOf("g4 tD1");
        ClothMarket nobody = Due.marketOf("g1 oA00");
        for (int way : new int[] {-1, 2, MIN, MAX}) {
            due.refuses("turn(" + way + ")", x, () -> x.turn(way), Due.BAD);
            due.refuses("turn(" + way + ") of nobody", nobody, () -> nobody.turn(way), Due.BAD);
        }
        due.refuses("turn(0) of nobody", nobody, () -> nobody.turn(0), Due.STATE);
        due.refuses("turn(1) of nobody", nobody, () -> nobody.turn(1), Due.STATE);
    }

    private static void shade() {
        due.by("21: The first SPOT of THE SHADE as it is (perhaps below 0), told by asked(): how many SPOTS it has (beyond the ground, too)");
        ClothMarket one = Due.marketOf("g1 bA-");
        due.tells("at 0 of one at A", one, one.shade(), 1, -3);
        one.minutes(3);
        due.tells("at 3", one, one.shade(), 1, 0);
        one.minutes(3);
        due.tells("at 6", one, one.shade(), 1, 3);
        one.minutes(1);
        due.tells("at 7", one, one.shade(), 1, -3);
        ClothMarket all = Due.marketOf("g1 tA- tT-");
        due.tells("at 0 of all the ground", all, all.shade(), 20, -3);
        all.minutes(6);
        due.tells("at 6 of all the ground", all, all.shade(), 20, 3);
        ClothMarket last = Due.behind("g1 bS- bT-", 6);
        due.tells("at 6 of S and T", last, last.shade(), 2, 21);
        ClothMarket ahead = Due.marketOf("g1 tC- bD- tH-");
        due.tells("at 0 of C to H", ahead, ahead.shade(), 6, -1);
        ahead.turn(1);
        due.tells("behind a turn", ahead, ahead.shade(), 6, 0);
    }

    private static void shadeOfNobody() {
        due.by("21: STATE: no BUYERS");
        ClothMarket nobody = Due.marketOf("g1 oA00");
        due.refuses("shade() of nobody", nobody, nobody::shade, Due.STATE);
        nobody.row(0, 1);
        nobody.lay(0, 0, 8);
        nobody.at(0, 0);
        due.refuses("shade() of nobody, asked() being 8", nobody, nobody::shade, Due.STATE);
    }

    private static void shaded() {
        due.by("22: STALLS (bits) in THE SHADE as it is");
        ClothMarket x = Due.behind("g4 oE00 oF01 oG02 oH03 oI04 oJ05 tF- tI-", 3);
        due.is("F to I by 0", x.shaded(), 2 + 4 + 8 + 16);
        x.minutes(1);
        due.is("F to I by 1", x.shaded(), 4 + 8 + 16 + 32);
        x.minutes(1);
        due.is("F to I by 2", x.shaded(), 8 + 16 + 32);
        x.minutes(5);
        due.is("F to I by 0 again", x.shaded(), 2 + 4 + 8 + 16);
        x.undo(2);
        due.is("F to I by -1", x.shaded(), 1 + 2 + 4 + 8);
        x.undo(0);
        due.is("F to I by -3", x.shaded(), 1 + 2);
        ClothMarket all = Due.behind("g4 oA00 oA01 oT02 oT03 oJ04 oJ05 tA- tT-", 3);
        due.is("all", all.shaded(), 63);
        due.is("asked() is not told by it", all.asked(), 0);
    }

    private static void shadedOfNone() {
        due.by("22: STALLS in THE SHADE: none, without STALLS or BUYERS or in the sun");
        due.is("no STALLS", Due.behind("g4 tA- tT-", 3).shaded(), 0);
        due.is("no BUYERS", Due.marketOf("g4 oA00 oD00 oT00").shaded(), 0);
        due.is("a new object", new ClothMarket().shaded(), 0);
        due.is("THE SHADE beyond the ground", Due.marketOf("g4 oA00 oT00 bA- bB-").shaded(), 0);
        ClothMarket gone = Due.behind("g4 oD00 bA- bD-", 3);
        due.is("shaded", gone.shaded(), 1);
        Due.write(gone, 1, "g4 oD00");
        gone.market(1);
        due.is("BUYERS gone", gone.shaded(), 0);
    }

    private static void keep() {
        due.by("23: The MARKET is kept in a place (0 .. 2): the MINUTE");
        ClothMarket x = Due.marketOf(ONE);
        due.is("keep(0) at 0", x.keep(0), 0);
        due.is("kept", x.count(5), 1);
        x.minutes(20);
        due.is("keep(2) at 20", x.keep(2), 20);
        due.is("kept", x.count(5), 2);
        x.minutes(20);
        x.minutes(20);
        due.is("keep(1) at 60", x.keep(1), 60);
        due.is("kept", x.count(5), 3);
        due.is("keep(0) over it", x.keep(0), 60);
        due.is("kept", x.count(5), 3);
        due.is("on(0)", x.on(0), 60);
        due.is("on(2)", x.on(2), 20);
        due.is("on(1)", x.on(1), 60);
        due.is("asked() is not told by it", x.asked(), 0);
    }

    private static void keepAllBut() {
        due.by("23: (all but ROWS, TEXTS, MINUTES that can be undone)");
        ClothMarket x = Due.behind("g2 oH15 oD26 oB07 rB1 bD2 dE1 cF0 tH1 pJ3", 4);
        x.price(2, 99);
        x.want(2, 3);
        x.turn(1);
        long[] was = market(x);
        x.keep(1);
        due.is("keep() lets all be undone", x.undo(0), 4);
        x.price(2, 1);
        x.price(0, 2);
        x.minutes(9);
        x.row(0, 5);
        x.text(2, 7);
        x.tear(0);
        x.row(4, 1);
        due.is("on(1)", x.on(1), 4);
        long[] is = market(x);
        for (int v = 0; v < was.length; v++) {
            due.is("value " + v, is[v], was[v]);
        }
        due.is("ROWS stay as they are", x.count(6), 1);
        due.is("TEXTS stay as they are", x.count(7), 2);
        due.is("nothing to undo", x.undo(4), 0);
        x.at(4, 0);
        x.lay(4, 0, 5);
        x.at(4, 0);
        x.keep(0);
        x.on(0);
        due.is("asked() is not of it", x.asked(), 5);
    }

    private static long[] market(ClothMarket x) {
        long[] all = new long[6 * 4 + 3 * 4 + 4];
        int v = 0;
        for (int i = 0; i < 6; i++) {
            for (int what = 0; what < 4; what++) {
                x.buyer(i, what);
                all[v++] = x.asked();
            }
        }
        for (int k = 0; k < 3; k++) {
            for (int what = 0; what < 4; what++) {
                x.stall(k, what);
                all[v++] = x.asked();
            }
        }
        all[v++] = x.count(2);
        all[v++] = x.shaded();
        all[v++] = x.mark(4, 4);
        all[v++] = x.bought(60);
        return all;
    }

    private static void keepRefused() {
        due.by("23: BAD; STATE: no BUYERS");
        ClothMarket x = Due.marketOf(ONE);
        ClothMarket nobody = Due.marketOf("g1 oA00");
        for (int k : new int[] {-1, 3, MIN, MAX}) {
            due.refuses("keep(" + k + ")", x, () -> x.keep(k), Due.BAD);
            due.refuses("keep(" + k + ") of nobody", nobody, () -> nobody.keep(k), Due.BAD);
        }
        for (int k = 0; k < 3; k++) {
            final int place = k;
            due.refuses("keep(" + k + ") of nobody", nobody, () -> nobody.keep(place), Due.STATE);
            due.finds("nothing is kept there", nobody, () -> nobody.on(place), Due.NOTHING);
        }
    }

    private static void on() {
        due.by("24: The MARKET is as it was kept (MINUTES ahead can't be undone): the MINUTE");
        ClothMarket x = Due.behind(ONE, 2);
        x.keep(0);
        ClothMarket twin = Due.behind(ONE, 2);
        x.minutes(4);
        due.is("on(0)", x.on(0), 2);
        due.is("the MINUTE", x.count(2), 2);
        due.refuses("undo(1)", x, () -> x.undo(1), Due.BAD);
        due.is("undo(2)", x.undo(2), 0);
        due.is("it goes on alike", x.minutes(1), twin.minutes(1));
        due.tells("paid alike", x, x.buyer(0, 3), 1, 5);
        due.is("undo(2) of what went by since", x.undo(2), 1);
        due.tells("not paid", x, x.buyer(0, 3), 1, 0);
        x.minutes(20);
        x.minutes(20);
        due.is("to MINUTE 60 from there", x.minutes(18), 0);
        due.refuses("and no more", x, () -> x.minutes(1), Due.FULL);
        due.is("undo(2) at 60", x.undo(2), 58);
    }

    private static void onTwice() {
        due.by("24: as it was kept: as often as wanted, from another MINUTE, too");
        ClothMarket x = Due.marketOf(ONE);
        x.keep(0);
        x.minutes(3);
        x.keep(1);
        for (int n = 0; n < 3; n++) {
            due.is("on(0)", x.on(0), 0);
            due.tells("wants still", x, x.buyer(0, 2), 1, 1);
            x.minutes(n);
            x.want(0, 0);
            due.is("on(1)", x.on(1), 3);
            due.tells("has bought", x, x.buyer(0, 3), 1, 5);
            due.refuses("undo(2)", x, () -> x.undo(2), Due.BAD);
            x.turn(0);
            x.price(0, 60 + n);
        }
        due.is("kept are", x.count(5), 2);
        due.is("on(0) from 3 back to 0", x.on(0), 0);
        x.minutes(1);
        due.is("undo(0)", x.undo(0), 1);
    }

    private static void onRefused() {
        due.by("24: BAD; NOTHING");
        ClothMarket x = Due.behind(ONE, 2);
        x.keep(1);
        for (int k : new int[] {-1, 3, MIN, MAX}) {
            due.refuses("on(" + k + ")", x, () -> x.on(k), Due.BAD);
        }
        due.finds("on(0)", x, () -> x.on(0), Due.NOTHING);
        due.finds("on(2)", x, () -> x.on(2), Due.NOTHING);
        due.is("the MINUTES stay", x.undo(0), 2);
        Due.write(x, 1, "g1 oA00");
        due.is("a MARKET of nobody", x.market(1), 0);
        due.finds("on(1) of nobody", x, () -> x.on(1), Due.NOTHING);
    }
}
