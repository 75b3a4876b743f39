/** Promises 34 and 35: fits, could. */
public final class TracksTest {
    private static final Due due = new Due();

    public static void main(String[] args) {
        ofOne();
        ofTwo();
        ofNone();
        othersAsNow();
        ofMany();
        refused();
        due.end("TracksTest");
    }

    private static void ofOne() {
        ClothMarket x = Due.marketOf("g4 oA01 oT12 bJ0");
        int[] seen = {6, 9, 12, Due.NONE, 0};
        int[] ways = {1, 3, 1, 5, 0};
        int[] first = {0, 2, 1, 0, Due.NONE};
        int[] goods = {1, 28, 2, 31, 0};
        for (int c = 0; c < seen.length; c++) {
            Due.see(x, 0, seen[c]);
            due.tells("fits of " + seen[c], x, x.fits(1, 3, 0), ways[c], first[c]);
            due.tells("could of " + seen[c], x, x.could(1, 3, 0, 0), goods[c], first[c]);
        }
        ClothMarket fresh = Due.marketOf("g4 oA01 oT12 bJ0");
        Due.see(fresh, 0, 12);
        due.is("could ahead of any fits", fresh.could(1, 3, 0, 0), 2);
        Due.see(x, 0, 9);
        due.tells("fits behind 0", x, x.fits(1, 0, 0), 5, 0);
        due.is("the want stays", x.want(0, 1), 0);
        x.minutes(3);
        Due.see(x, 0, 14);
        due.tells("fits from now", x, x.fits(1, 2, 0), 1, 1);
    }

    private static void ofTwo() {
        ClothMarket x = Due.marketOf("g4 oA01 oT12 bJ0 tM1");
        Due.see(x, 0, 6, 12);
        due.tells("a THIEF may want all", x, x.fits(3, 3, 0), 5, 0);
        due.is("could, the first", x.could(3, 3, 0, 0), 1);
        due.is("could, the THIEF", x.could(3, 3, 0, 1), 31);
        Due.see(x, 0, 11, 12);
        due.tells("the first one has the highest figure", x, x.fits(3, 3, 0), 5, 5);
        due.tells("the same of the first alone", x, x.fits(1, 3, 0), 1, 1);
        Due.see(x, 0, 9, Due.NONE);
        due.tells("who stands still", x, x.fits(3, 3, 0), 15, 10);
        Due.see(x, 0, Due.NONE, Due.NONE);
        due.tells("not seen at all", x, x.fits(3, 20, 0), 25, 0);
        Due.see(x, 0, Due.NONE, 13);
        due.tells("none", x, x.fits(3, 20, 0), 0, Due.NONE);
        due.is("could, none", x.could(3, 20, 0, 1), 0);
    }

    private static void ofNone() {
        ClothMarket x = Due.marketOf("g4 oA01 oT12 bJ0 tM1");
        Due.see(x, 0, 6, 12);
        due.tells("nobody's wants, as seen", x, x.fits(0, 3, 0), 1, 0);
        Due.see(x, 0, 7, 12);
        due.tells("nobody's wants, not as seen", x, x.fits(0, 3, 0), 0, Due.NONE);
    }

    private static void othersAsNow() {
        ClothMarket x = Due.marketOf("g4 oA01 oT12 bJ0 tM1");
        Due.see(x, 2, 12 - 1, 12);
        due.tells("set 2: BUYER 0 wants 0", x, x.fits(2, 3, 2), 0, Due.NONE);
        x.want(0, 1);
        due.tells("set 2: BUYER 0 wants 1", x, x.fits(2, 3, 2), 5, 0);
        due.is("could of 1", x.could(2, 3, 2, 1), 31);
    }

    private static void ofMany() {
        ClothMarket x = Due.marketOf("g1 oA01 dC0 dD0 dE0 dF0 dG0 tH0");
        Due.see(x, 5, 2, 3, 4, 5, 6, 7);
        due.tells("five", x, x.fits(31, 20, 5), 3125, 0);
        due.tells("another five", x, x.fits(62, 20, 5), 3125, 0);
        due.is("could of five", x.could(62, 20, 5, 5), 31);
        ClothMarket last = Due.marketOf("g4 oA01 oT12 dC0 dD0 dE0 dF0 dG0 bH0");
        Due.see(last, 0, 2, 3, 4, 5, 6, 9);
        due.tells("the last two", last, last.fits(48, 2, 0), 5, 1);
        due.is("could of the last one", last.could(48, 2, 0, 5), 2);
        // A CHILD who has bought goes on to the sweets, so it matters when it BUYS: in MINUTE 3.
        ClothMarket child = Due.marketOf("g4 oC15 oF35 cC1");
        Due.see(child, 0, 3);
        due.tells("a CHILD behind 4", child, child.fits(1, 4, 0), 1, 1);
        due.refuses("six", x, () -> x.fits(63, 20, 5), Due.SPENT);
        due.refuses("could of six", x, () -> x.could(63, 20, 5, 0), Due.SPENT);
    }

    private static void refused() {
        ClothMarket x = Due.marketOf("g1 oA01 dC0 dD0 dE0 dF0 dG0 tH0");
        Due.see(x, 0, 2, 3, 4, 5, 6, 7);
        due.refuses("fits(64, ..)", x, () -> x.fits(64, 0, 0), Due.BAD);
        due.refuses("fits(-1, ..)", x, () -> x.fits(-1, 0, 0), Due.BAD);
        due.refuses("fits, n 21", x, () -> x.fits(63, 21, 0), Due.BAD);
        due.refuses("fits, n -1", x, () -> x.fits(1, -1, 0), Due.BAD);
        due.refuses("fits, no ROW's number", x, () -> x.fits(63, 0, 6), Due.BAD);
        due.refuses("fits, no ROW's number", x, () -> x.fits(1, 0, -1), Due.BAD);
        due.refuses("could(64, ..)", x, () -> x.could(64, 0, 0, 0), Due.BAD);
        due.refuses("could(-1, ..)", x, () -> x.could(-1, 0, 0, 0), Due.BAD);
        due.refuses("could, n 21", x, () -> x.could(1, 21, 0, 0), Due.BAD);
        due.refuses("could, no ROW's number", x, () -> x.could(1, 0, 6, 0), Due.BAD);
        due.refuses("could, not of the set", x, () -> x.could(1, 0, 0, 1), Due.BAD);
        due.refuses("could, nobody's number", x, () -> x.could(1, 0, 0, 6), Due.BAD);
        due.refuses("could, nobody's number", x, () -> x.could(1, 0, 0, 32), Due.BAD);
        due.refuses("could, nobody's number", x, () -> x.could(1, 0, 0, -32), Due.BAD);
        refusedByRow(Due.marketOf("g1 oA01 dC0 dD0 dE0 dF0 dG0 tH0"));
        ClothMarket nobody = new ClothMarket();
        due.refuses("fits of nobody", nobody, () -> nobody.fits(0, 0, 0), Due.STATE);
        due.refuses("fits of one who is not there", nobody, () -> nobody.fits(1, 0, 0), Due.BAD);
        due.refuses("could of nobody", nobody, () -> nobody.could(0, 0, 0, 0), Due.BAD);
        ClothMarket two = Due.marketOf("g1 bA0 bB0");
        due.refuses("fits of one who is not there", two, () -> two.fits(4, 0, 0), Due.BAD);
    }

    private static void refusedByRow(ClothMarket x) {
        due.refuses("SPENT ahead of NOTHING", x, () -> x.fits(63, 0, 4), Due.SPENT);
        due.finds("fits, no ROW", x, () -> x.fits(1, 0, 4), Due.NOTHING);
        due.finds("could, no ROW", x, () -> x.could(1, 0, 4, 0), Due.NOTHING);
        Due.see(x, 1, 20, 20, 20, 20, 20);
        due.finds("fits, too few", x, () -> x.fits(1, 0, 1), Due.SIZE);
        due.finds("could, too few", x, () -> x.could(1, 0, 1, 0), Due.SIZE);
        Due.see(x, 1, 2, 3, 4, 5, 6, 7, 8);
        due.finds("fits, too many", x, () -> x.fits(1, 0, 1), Due.SIZE);
    }
}
