/** The edges that promises 34 and 35 name, sentence by sentence: fits, could. */
public final class TracksEdgesTest {
    private static final Due due = new Due();
    private static final int MIN = Integer.MIN_VALUE, MAX = Integer.MAX_VALUE;
    private static final String SIX = "g1 oA01 dC0 dD0 dE0 dF0 dG0 tH0";

    public static void main(String[] args) {
        minutes();
        notSeen();
        sets();
        others();
        first();
        none();
        refusedBad();
        refusedState();
        refusedSpent();
        refusedNothing();
        refusedSize();
        refusedUnlike();
        order();
        could();
        couldNotOfTheSet();
        couldTellsNothing();
        due.end("TracksEdgesTest");
    }

    private static void fitIn(ClothMarket x, int set, int n, int r, int ways, int first, int... goods) {
        String call = "fits(" + set + ", " + n + ", " + r + ")";
        long digest = x.digest();
        due.tells(call, x, x.fits(set, n, r), ways, first);
        int g = 0;
        for (int i = 0; i < x.count(0); i++) {
            if ((set & 1 << i) != 0) {
                due.is("could(.., " + i + ") as " + call, x.could(set, n, r, i), goods[g++]);
            }
        }
        due.is("nothing has changed by " + call, x.digest(), digest);
    }

    private static void minutes() {
        due.by("34: From SPOTS behind n (0 .. 20) MINUTES what BUYERS of a set can have wanted at first");
        ClothMarket x = Due.marketOf("g4 oA01 oT12 bJ0");
        Due.see(x, 0, 9);
        fitIn(x, 1, 0, 0, 5, 0, 31);
        fitIn(x, 1, 1, 0, 3, 2, 28);
        Due.see(x, 0, 8);
        fitIn(x, 1, 1, 0, 1, 0, 1);
        Due.see(x, 0, 10);
        fitIn(x, 1, 1, 0, 1, 1, 2);
        Due.see(x, 0, 19);
        fitIn(x, 1, 9, 0, 0, Due.NONE, 0);
        fitIn(x, 1, 10, 0, 1, 1, 2);
        fitIn(x, 1, 20, 0, 1, 1, 2);
        ClothMarket late = Due.behind("g4 oA01 oT12 bJ-", 20);
        late.minutes(20);
        late.minutes(20);
        Due.see(late, 5, 0);
        fitIn(late, 1, 20, 5, 1, 0, 1);
    }

    private static void notSeen() {
        due.by("34: (a ROW; NONE: not seen)");
        ClothMarket x = Due.marketOf("g4 oA01 oT12 bJ0 tM1");
        Due.see(x, 0, Due.NONE, Due.NONE);
        fitIn(x, 3, 5, 0, 25, 0, 31, 31);
        Due.see(x, 0, Due.NONE, 12);
        fitIn(x, 3, 5, 0, 25, 0, 31, 31);
        Due.see(x, 0, Due.NONE, 11);
        fitIn(x, 3, 5, 0, 0, Due.NONE, 0, 0);
        Due.see(x, 0, 11, Due.NONE);
        fitIn(x, 3, 5, 0, 5, 5, 2, 31);
        Due.see(x, 0, 0, Due.NONE);
        fitIn(x, 3, 9, 0, 5, 0, 1, 31);
        Due.see(x, 0, 19, Due.NONE);
        fitIn(x, 3, 9, 0, 0, Due.NONE, 0, 0);
    }

    private static void sets() {
        due.by("34: what BUYERS of a set (5 at most) can have wanted: how many ways (each 0 .. 3, or nothing) fit");
        ClothMarket x = Due.marketOf(SIX);
        Due.see(x, 0, 2, 3, 4, 5, 6, 7);
        int ways = 1;
        for (int many = 0; many <= 5; many++) {
            int low = (1 << many) - 1;
            due.tells("fits of the first " + many, x, x.fits(low, 2, 0), ways, 0);
            due.tells("fits of the last " + many, x, x.fits(63 ^ 63 >> many, 2, 0), ways, 0);
            ways *= 5;
        }
        for (int i = 0; i < 6; i++) {
            due.tells("fits of all but " + i, x, x.fits(63 ^ 1 << i, 20, 0), 3125, 0);
            due.tells("fits of " + i + " alone", x, x.fits(1 << i, 20, 0), 5, 0);
        }
        due.tells("fits of nobody", x, x.fits(0, 20, 0), 1, 0);
        Due.see(x, 1, 2, 3, 4, 5, 6, 8);
        due.tells("fits of nobody, not as seen", x, x.fits(0, 20, 1), 0, Due.NONE);
    }

    private static void others() {
        due.by("34: others as they do now");
        ClothMarket x = Due.marketOf("g4 oA01 oT12 bJ0 tM1");
        Due.see(x, 0, 11, 12);
        fitIn(x, 2, 2, 0, 0, Due.NONE, 0);
        fitIn(x, 1, 2, 0, 1, 1, 2);
        x.want(0, 1);
        fitIn(x, 2, 2, 0, 5, 0, 31);
        fitIn(x, 0, 2, 0, 1, 0);
        x.want(0, 4);
        fitIn(x, 2, 2, 0, 0, Due.NONE, 0);
        fitIn(x, 1, 2, 0, 1, 1, 2);
    }

    private static void first() {
        due.by("34: the first (as a number: the first one the highest figure to the base of 5, 4: nothing) by asked()");
        ClothMarket x = Due.marketOf("g4 oA01 oT12 bD0 tH- bL0 tP-");
        Due.see(x, 0, 4, 7, 10, 15);
        fitIn(x, 5, 1, 0, 1, 1 * 5 + 0, 2, 1);
        fitIn(x, 7, 1, 0, 5, 1 * 25 + 0 * 5 + 0, 2, 31, 1);
        fitIn(x, 13, 1, 0, 5, 1 * 25 + 0 * 5 + 0, 2, 1, 31);
        fitIn(x, 15, 1, 0, 25, 1 * 125, 2, 31, 1, 31);
        Due.see(x, 0, 2, 7, 12, 15);
        fitIn(x, 5, 1, 0, 1, 0 * 5 + 1, 1, 2);
        Due.see(x, 0, 3, 7, 11, 15);
        fitIn(x, 5, 1, 0, 9, 2 * 5 + 2, 28, 28);
        Due.see(x, 0, 2, 7, 11, 15);
        fitIn(x, 5, 1, 0, 3, 0 * 5 + 2, 1, 28);
        // Whoever wants anything goes right, so only 4 fits.
        ClothMarket y = Due.marketOf("g4 oT00 oT10 oT20 oT30 bJ0");
        Due.see(y, 0, 9);
        fitIn(y, 1, 1, 0, 1, 4, 16);
        ClothMarket two = Due.marketOf("g4 oT00 oT10 oT20 oT30 bJ0 tK- bN0");
        Due.see(two, 0, 9, 10, 13);
        fitIn(two, 5, 1, 0, 5, 4, 31, 16);
    }

    private static void none() {
        due.by("34: (NONE: none)");
        ClothMarket x = Due.marketOf("g4 oA01 oT12 bJ0");
        Due.see(x, 0, 19);
        x.at(0, 0);
        due.is("asked() ahead", x.asked(), 19);
        due.tells("fits(1, 5, 0)", x, x.fits(1, 5, 0), 0, Due.NONE);
        due.is("NONE is no FINDING", x.finding(), 0);
        due.is("could(1, 5, 0, 0)", x.could(1, 5, 0, 0), 0);
    }

    private static void refusedBad() {
        due.by("34: BAD");
        ClothMarket x = Due.marketOf("g4 oA01 oT12 bJ0 tM1");
        Due.see(x, 0, 9, 12);
        for (int set : new int[] {-1, 4, 5, 7, 8, 63, 64, MIN, MAX}) {
            due.refuses("fits(" + set + ", 0, 0)", x, () -> x.fits(set, 0, 0), Due.BAD);
        }
        for (int n : new int[] {-1, 21, MIN, MAX}) {
            due.refuses("fits(3, " + n + ", 0)", x, () -> x.fits(3, n, 0), Due.BAD);
        }
        for (int r : new int[] {-1, 6, MIN, MAX}) {
            due.refuses("fits(3, 0, " + r + ")", x, () -> x.fits(3, 0, r), Due.BAD);
        }
        due.tells("fits(3, 0, 0)", x, x.fits(3, 0, 0), 25, 0);
        ClothMarket six = Due.marketOf(SIX);
        Due.see(six, 0, 2, 3, 4, 5, 6, 7);
        due.refuses("fits(64, 0, 0) of six", six, () -> six.fits(64, 0, 0), Due.BAD);
        due.is("fits(62, 0, 0) of six", six.fits(62, 0, 0), 3125);
    }

    private static void refusedState() {
        due.by("34: STATE: no BUYERS");
        ClothMarket nobody = Due.marketOf("g1 oA00");
        nobody.row(0, 0);
        due.refuses("fits(0, 0, 0)", nobody, () -> nobody.fits(0, 0, 0), Due.STATE);
        due.refuses("fits(0, 20, 5), no ROW", nobody, () -> nobody.fits(0, 20, 5), Due.STATE);
        due.refuses("fits(0, 21, 0)", nobody, () -> nobody.fits(0, 21, 0), Due.BAD);
        due.refuses("fits(0, 0, 6)", nobody, () -> nobody.fits(0, 0, 6), Due.BAD);
        due.refuses("could(0, 0, 0, 0): nobody is of the set", nobody, () -> nobody.could(0, 0, 0, 0), Due.BAD);
    }

    private static void refusedSpent() {
        due.by("34: SPENT: more than 5");
        ClothMarket x = Due.marketOf(SIX);
        Due.see(x, 0, 2, 3, 4, 5, 6, 7);
        due.refuses("fits(63, 0, 0)", x, () -> x.fits(63, 0, 0), Due.SPENT);
        due.refuses("could(63, 0, 0, 5)", x, () -> x.could(63, 0, 0, 5), Due.SPENT);
        due.is("fits(31, 0, 0)", x.fits(31, 0, 0), 3125);
        due.is("could(31, 0, 0, 4)", x.could(31, 0, 0, 4), 31);
    }

    private static void refusedNothing() {
        due.by("34: NOTHING");
        ClothMarket x = Due.marketOf("g1 bA0");
        x.row(4, 1);
        for (int r = 0; r <= 5; r++) {
            final int row = r;
            if (r != 4) {
                due.finds("fits(1, 0, " + r + ")", x, () -> x.fits(1, 0, row), Due.NOTHING);
                due.finds("could(1, 0, " + r + ", 0)", x, () -> x.could(1, 0, row, 0), Due.NOTHING);
            }
        }
        due.is("fits(1, 0, 4)", x.fits(1, 0, 4), 5);
    }

    private static void refusedSize() {
        due.by("34: SIZE: not as many as BUYERS");
        for (int size : new int[] {0, 1, 3, 6, 40}) {
            ClothMarket x = Due.marketOf("g1 bA0 bB0");
            x.row(0, size);
            due.finds("fits(3, 0, 0) of " + size, x, () -> x.fits(3, 0, 0), Due.SIZE);
            due.finds("could(3, 0, 0, 1) of " + size, x, () -> x.could(3, 0, 0, 1), Due.SIZE);
        }
        ClothMarket x = Due.marketOf("g1 bA0 bB0");
        x.row(0, 2);
        due.is("fits(3, 0, 0) of 2", x.fits(3, 0, 0), 0);
    }

    private static void refusedUnlike() {
        due.by("34: UNLIKE: neither SPOTS nor NONE");
        for (int v : new int[] {-1, 20, 21, -8, -10, MIN, MAX}) {
            for (int place = 0; place < 3; place++) {
                ClothMarket x = Due.marketOf("g1 bA0 bB0 bC0");
                Due.see(x, 0, 0, 1, 2);
                x.lay(0, place, v);
                due.finds("fits(7, 0, 0) of " + v + " at " + place, x, () -> x.fits(7, 0, 0), Due.UNLIKE);
                due.finds("fits(0, 0, 0) of " + v + " at " + place, x, () -> x.fits(0, 0, 0), Due.UNLIKE);
                due.finds("could(2, 0, 0, 1) of " + v + " at " + place, x, () -> x.could(2, 0, 0, 1), Due.UNLIKE);
            }
        }
        for (int v : new int[] {0, 19, Due.NONE}) {
            ClothMarket x = Due.marketOf("g1 bA0 bB0 bC0");
            Due.see(x, 0, v, v, v);
            due.is("fits(7, 0, 0) of " + v, x.fits(7, 0, 0), v == Due.NONE ? 125 : 0);
        }
        ClothMarket behind = Due.marketOf("g1 bA0 bB0 bC0");
        Due.see(behind, 0, 19, 1, 20);
        due.finds("the last place, though the first one does not fit", behind, () -> behind.fits(7, 0, 0), Due.UNLIKE);
    }

    private static void order() {
        due.by("34: (In this order.)");
        ClothMarket x = Due.marketOf(SIX);
        Due.see(x, 0, 20, 3, 4, 5, 6, 7);
        Due.see(x, 1, 20, 3);
        due.refuses("BAD ahead of SPENT", x, () -> x.fits(63, 21, 0), Due.BAD);
        due.refuses("BAD ahead of NOTHING", x, () -> x.fits(1, 21, 5), Due.BAD);
        due.refuses("BAD ahead of SIZE", x, () -> x.fits(64, 0, 1), Due.BAD);
        due.refuses("BAD ahead of UNLIKE", x, () -> x.fits(-1, 0, 0), Due.BAD);
        due.refuses("SPENT ahead of NOTHING", x, () -> x.fits(63, 0, 5), Due.SPENT);
        due.refuses("SPENT ahead of SIZE", x, () -> x.fits(63, 0, 1), Due.SPENT);
        due.refuses("SPENT ahead of UNLIKE", x, () -> x.fits(63, 0, 0), Due.SPENT);
        due.finds("SIZE ahead of UNLIKE", x, () -> x.fits(1, 0, 1), Due.SIZE);
        due.by("35: (In this order.)");
        due.refuses("BAD ahead of SPENT", x, () -> x.could(63, 0, 0, 6), Due.BAD);
        due.refuses("BAD ahead of NOTHING", x, () -> x.could(1, 0, 5, 1), Due.BAD);
        due.refuses("SPENT ahead of NOTHING", x, () -> x.could(63, 0, 5, 0), Due.SPENT);
        due.refuses("SPENT ahead of UNLIKE", x, () -> x.could(63, 0, 0, 0), Due.SPENT);
        due.finds("SIZE ahead of UNLIKE", x, () -> x.could(1, 0, 1, 0), Due.SIZE);
    }

    private static void could() {
        due.by("35: GOODS (bits 0 .. 3; 4: nothing) that one BUYER of the set can have wanted then");
        ClothMarket x = Due.marketOf("g4 oA00 oS10 oA20 oT30 bJ0");
        Due.see(x, 0, 8);
        due.is("left: 0 and 2", x.could(1, 1, 0, 0), 5);
        Due.see(x, 0, 10);
        due.is("right: 1 and 3", x.could(1, 1, 0, 0), 10);
        Due.see(x, 0, 9);
        due.is("stays: nothing", x.could(1, 1, 0, 0), 16);
        Due.see(x, 0, 19);
        due.is("T: 3", x.could(1, 20, 0, 0), 8);
        Due.see(x, 0, 18);
        due.is("S: 1", x.could(1, 20, 0, 0), 2);
        due.is("S in 9: 1 and 3", x.could(1, 9, 0, 0), 10);
        Due.see(x, 0, 7);
        due.is("not in one", x.could(1, 1, 0, 0), 0);
        // Both BUYERS go right only if the one behind makes room.
        ClothMarket two = Due.marketOf("g4 oA00 oT10 bJ- bK-");
        Due.see(two, 0, 9, 11);
        due.is("the other one", two.could(3, 1, 0, 1), 2);
        due.is("this one stays whatever is wanted, if right or nothing", two.could(3, 1, 0, 0), 2 + 4 + 8 + 16);
    }

    private static void couldNotOfTheSet() {
        due.by("35: BAD: also one not of the set");
        ClothMarket x = Due.marketOf(SIX);
        Due.see(x, 0, 2, 3, 4, 5, 6, 7);
        for (int i = 0; i < 6; i++) {
            final int who = i;
            due.refuses("could(0, 0, 0, " + i + ")", x, () -> x.could(0, 0, 0, who), Due.BAD);
            due.refuses("could(all but " + i + ")", x, () -> x.could(63 ^ 1 << who, 0, 0, who), Due.BAD);
            due.is("could(" + i + " alone)", x.could(1 << i, 0, 0, i), 31);
        }
        ClothMarket y = Due.marketOf(SIX);
        Due.see(y, 0, 2, 3, 4, 5, 6, 7);
        for (int i : new int[] {-1, 6, 31, 32, 33, -32, MIN, MAX}) {
            due.refuses("could(31, 0, 0, " + i + ")", y, () -> y.could(31, 0, 0, i), Due.BAD);
        }
        for (int n : new int[] {-1, 21}) {
            due.refuses("could(1, " + n + ", 0, 0)", y, () -> y.could(1, n, 0, 0), Due.BAD);
        }
        due.refuses("could(1, 0, -1, 0)", y, () -> y.could(1, 0, -1, 0), Due.BAD);
        due.refuses("could(1, 0, 6, 0)", y, () -> y.could(1, 0, 6, 0), Due.BAD);
        due.refuses("could(64, 0, 0, 0)", y, () -> y.could(64, 0, 0, 0), Due.BAD);
        due.refuses("could(-1, 0, 0, 0)", y, () -> y.could(-1, 0, 0, 0), Due.BAD);
        due.is("could(1, 20, 0, 0)", y.could(1, 20, 0, 0), 31);
    }

    private static void couldTellsNothing() {
        due.by("37: What the latest .. fits(), winds() .. told: could() is none of them");
        ClothMarket x = Due.marketOf("g4 oA01 oT12 bJ0");
        Due.see(x, 0, 10);
        x.fits(1, 1, 0);
        due.is("asked() by fits", x.asked(), 1);
        Due.see(x, 0, 8);
        x.at(0, 0);
        x.could(1, 1, 0, 0);
        due.is("asked() behind could", x.asked(), 8);
    }
}
