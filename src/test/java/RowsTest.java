/** Promises 1 to 7: a new object, row, lay, at, tear, copy, mean. */
public final class RowsTest {
    private static final Due due = new Due();

    public static void main(String[] args) {
        newObject();
        row();
        layAndAt();
        tear();
        copy();
        mean();
        due.end("RowsTest");
    }

    private static void newObject() {
        ClothMarket x = new ClothMarket();
        for (int what = 0; what <= 8; what++) {
            due.is("new, count(" + what + ")", x.count(what), 0);
        }
        for (int r = 0; r < 6; r++) {
            final int row = r;
            due.finds("new, at(" + r + ", 0)", x, () -> x.at(row, 0), Due.NOTHING);
        }
        for (int t = 0; t < 4; t++) {
            final int text = t;
            due.finds("new, fault(" + t + ")", x, () -> x.fault(text), Due.NOTHING);
        }
        due.refuses("new, buyer(0, 0)", x, () -> x.buyer(0, 0), Due.BAD);
        due.refuses("new, stall(0, 0)", x, () -> x.stall(0, 0), Due.BAD);
        due.is("new, asked()", x.asked(), 0);
        due.is("new, finding()", new ClothMarket().finding(), 0);
    }

    private static void row() {
        ClothMarket x = new ClothMarket();
        due.is("row(0, 40)", x.row(0, 40), 40);
        due.is("row(5, 0)", x.row(5, 0), 0);
        due.is("count(6)", x.count(6), 2);
        due.tells("at(0, 39)", x, x.at(0, 39), 1, 0);
        x.lay(0, 3, 77);
        due.is("row(0, 4) anew", x.row(0, 4), 4);
        due.tells("at(0, 3) is 0 again", x, x.at(0, 3), 1, 0);
        due.finds("at(0, 4)", x, () -> x.at(0, 4), Due.BEYOND);
        due.refuses("row(6, 1)", x, () -> x.row(6, 1), Due.BAD);
        due.refuses("row(-1, 1)", x, () -> x.row(-1, 1), Due.BAD);
        due.refuses("row(0, 41)", x, () -> x.row(0, 41), Due.BAD);
        due.refuses("row(6, -1): BAD first", x, () -> x.row(6, -1), Due.BAD);
        due.finds("row(0, -1)", x, () -> x.row(0, -1), Due.SIZE);
        due.finds("row(0, MIN)", x, () -> x.row(0, Integer.MIN_VALUE), Due.SIZE);
    }

    private static void layAndAt() {
        ClothMarket x = new ClothMarket();
        x.row(2, 3);
        due.tells("lay(2, 0, -5)", x, x.lay(2, 0, -5), 1, 0);
        due.tells("lay(2, 0, 9)", x, x.lay(2, 0, 9), 1, -5);
        due.tells("lay(2, 2, MIN)", x, x.lay(2, 2, Integer.MIN_VALUE), 1, 0);
        due.tells("at(2, 2)", x, x.at(2, 2), 1, Integer.MIN_VALUE);
        due.tells("at(2, 0)", x, x.at(2, 0), 1, 9);
        due.tells("at(2, 1)", x, x.at(2, 1), 1, 0);
        for (int i : new int[] {-1, 3, Integer.MAX_VALUE, Integer.MIN_VALUE}) {
            due.finds("lay beyond", x, () -> x.lay(2, i, 1), Due.BEYOND);
            due.finds("at beyond", x, () -> x.at(2, i), Due.BEYOND);
            due.finds("lay at nothing", x, () -> x.lay(3, i, 1), Due.NOTHING);
            due.finds("at nothing", x, () -> x.at(3, i), Due.NOTHING);
            due.refuses("lay at none", x, () -> x.lay(6, i, 1), Due.BAD);
            due.refuses("at none", x, () -> x.at(-1, i), Due.BAD);
        }
    }

    private static void tear() {
        ClothMarket x = new ClothMarket();
        x.row(4, 2);
        due.is("tear(4)", x.tear(4), 1);
        due.is("count(6)", x.count(6), 0);
        due.finds("tear(4) again", x, () -> x.tear(4), Due.NOTHING);
        due.finds("at(4, 0)", x, () -> x.at(4, 0), Due.NOTHING);
        due.refuses("tear(6)", x, () -> x.tear(6), Due.BAD);
        due.refuses("tear(-1)", x, () -> x.tear(-1), Due.BAD);
    }

    private static ClothMarket counting(int n) {
        ClothMarket x = new ClothMarket();
        x.row(0, n);
        for (int i = 0; i < n; i++) {
            x.lay(0, i, i + 1);
        }
        return x;
    }

    private static void holds(String call, ClothMarket x, int r, int... places) {
        for (int i = 0; i < places.length; i++) {
            x.at(r, i);
            due.is(call + ", place " + i, x.asked(), places[i]);
        }
    }

    private static void copy() {
        ClothMarket x = counting(5);
        x.row(1, 4);
        due.is("copy to another", x.copy(0, 1, 1, 2, 2), 1);
        holds("copy to another", x, 1, 0, 0, 2, 3);
        due.is("copy to the right in itself", x.copy(0, 0, 0, 1, 4), 1);
        holds("copy to the right in itself", x, 0, 1, 1, 2, 3, 4);
        ClothMarket y = counting(5);
        due.is("copy to the left in itself", y.copy(0, 2, 0, 0, 3), 1);
        holds("copy to the left in itself", y, 0, 3, 4, 5, 4, 5);
        due.is("copy of none at the end", y.copy(0, 5, 0, 5, 0), 1);
        due.finds("copy of none beyond the end", y, () -> y.copy(0, 6, 0, 0, 0), Due.BEYOND);
        due.finds("copy of none to beyond the end", y, () -> y.copy(0, 0, 0, 6, 0), Due.BEYOND);
        due.finds("copy of none from below", y, () -> y.copy(0, -1, 0, 0, 0), Due.BEYOND);
        due.finds("copy of none to below", y, () -> y.copy(0, 0, 0, -1, 0), Due.BEYOND);
        due.finds("copy of too many", y, () -> y.copy(0, 3, 0, 0, 3), Due.BEYOND);
        due.finds("copy to too few", y, () -> y.copy(0, 0, 0, 3, 3), Due.BEYOND);
        due.finds("copy of very many", y, () -> y.copy(0, 1, 0, 1, Integer.MAX_VALUE), Due.BEYOND);
        due.finds("copy from far", y, () -> y.copy(0, Integer.MAX_VALUE, 0, 0, 1), Due.BEYOND);
        due.finds("copy from nothing", y, () -> y.copy(3, 0, 0, 0, 1), Due.NOTHING);
        due.finds("copy to nothing, and beyond", y, () -> y.copy(0, 9, 3, 0, 1), Due.NOTHING);
        due.finds("copy of fewer than none", y, () -> y.copy(3, 0, 4, 0, -1), Due.SIZE);
        due.refuses("copy from none", y, () -> y.copy(6, 0, 0, 0, -1), Due.BAD);
        due.refuses("copy to none", y, () -> y.copy(0, 0, -1, 0, 1), Due.BAD);
    }

    private static void mean() {
        ClothMarket x = counting(4);
        due.tells("mean of 1 2 3 4, cut", x, x.mean(0), 1, 2);
        x.row(1, 1);
        due.tells("mean of 0", x, x.mean(1), 1, 0);
        x.row(1, 2);
        x.lay(1, 0, -3);
        due.tells("mean of -3 0, cut", x, x.mean(1), 1, -1);
        x.row(2, 40);
        for (int i = 0; i < 40; i++) {
            x.lay(2, i, Integer.MAX_VALUE);
        }
        due.tells("mean of the greatest", x, x.mean(2), 1, Integer.MAX_VALUE);
        x.row(3, 0);
        due.finds("mean of none", x, () -> x.mean(3), Due.NOUGHT);
        due.finds("mean of nothing", x, () -> x.mean(4), Due.NOTHING);
        due.refuses("mean(6)", x, () -> x.mean(6), Due.BAD);
        due.refuses("mean(-1)", x, () -> x.mean(-1), Due.BAD);
    }
}
