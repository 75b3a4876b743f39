/** The edges that promises 1 to 9 name, sentence by sentence: a new object, row, lay, at, tear, copy, mean, text, put. */
public final class RowsEdgesTest {
    private static final Due due = new Due();
    private static final int MIN = Integer.MIN_VALUE, MAX = Integer.MAX_VALUE;

    public static void main(String[] args) {
        newObject();
        rowIsThere();
        rowAnew();
        rowRefused();
        lay();
        layRefused();
        at();
        atRefused();
        tear();
        tearRefused();
        copyAsIfTakenAhead();
        copyOfNone();
        copyOfAll();
        copyRefused();
        copyOrder();
        mean();
        meanCut();
        meanRefused();
        textIsThere();
        textRefused();
        put();
        putCut();
        putRefused();
        due.end("RowsEdgesTest");
    }

    private static void newObject() {
        due.by("1: No ROWS, TEXTS, STALLS, BUYERS");
        for (int n = 0; n < 7; n++) {
            final int i = n;
            ClothMarket x = new ClothMarket();
            due.refuses("buyer(" + i + ", 0)", x, () -> x.buyer(i, 0), Due.BAD);
            due.refuses("stall(" + i + ", 0)", x, () -> x.stall(i, 0), Due.BAD);
            due.refuses("want(" + i + ", 0)", x, () -> x.want(i, 0), Due.BAD);
            due.refuses("price(" + i + ", 0)", x, () -> x.price(i, 0), Due.BAD);
            due.refuses("wish(" + i + ")", x, () -> x.wish(i), Due.BAD);
            due.refuses("mark(" + i + ", 1)", x, () -> x.mark(i, 1), Due.BAD);
            due.refuses("when(" + i + ")", x, () -> x.when(i), Due.BAD);
            due.refuses("spot(" + i + ", 1)", x, () -> x.spot(i, 1), Due.BAD);
        }
        ClothMarket x = new ClothMarket();
        for (int what = 0; what <= 8; what++) {
            due.is("count(" + what + ")", x.count(what), 0);
        }
        due.is("shaded()", x.shaded(), 0);
        due.is("upper()", x.upper(), 0);
        due.is("lower()", x.lower(), 1);
        due.is("asked()", x.asked(), 0);
        due.is("finding()", x.finding(), 0);
        for (int f = 1; f <= 5; f++) {
            due.is("findings(" + f + ")", x.findings(f), 0);
        }
        for (int k = 0; k < 3; k++) {
            final int place = k;
            due.finds("on(" + k + ")", x, () -> x.on(place), Due.NOTHING);
        }
        ClothMarket other = Due.marketOf("g1 oA00 bA0");
        other.row(0, 1);
        due.is("another object's ROWS are not of it", x.count(6), 0);
        due.is("another object's BUYERS are not of it", x.count(0), 0);
    }

    private static void rowIsThere() {
        due.by("2: A ROW is there with n ints 0: n");
        for (int n = 0; n <= 40; n++) {
            ClothMarket x = new ClothMarket();
            due.is("row(0, " + n + ")", x.row(0, n), n);
            due.is("row(5, " + (40 - n) + ")", x.row(5, 40 - n), 40 - n);
            due.is("ROWS", x.count(6), 2);
            due.rowIs("row(0, " + n + ")", x, 0, new int[n]);
            due.rowIs("row(5, " + (40 - n) + ")", x, 5, new int[40 - n]);
            due.is("asked() is not told by it", x.asked(), 0);
        }
    }

    private static void rowAnew() {
        due.by("2: A ROW is there with n ints 0: one that was there, too");
        ClothMarket x = new ClothMarket();
        Due.see(x, 3, 7, 8, 9);
        due.is("row(3, 2)", x.row(3, 2), 2);
        due.rowIs("row(3, 2)", x, 3, 0, 0);
        due.is("row(3, 4)", x.row(3, 4), 4);
        due.rowIs("row(3, 4)", x, 3, 0, 0, 0, 0);
        due.is("row(3, 0)", x.row(3, 0), 0);
        due.rowIs("row(3, 0)", x, 3);
        due.is("ROWS", x.count(6), 1);
    }

    private static void rowRefused() {
        due.by("2: BAD: also n above 40; SIZE: below 0");
        ClothMarket x = new ClothMarket();
        Due.see(x, 0, 5, 6);
        for (int r : new int[] {-1, 6, 7, MIN, MAX}) {
            for (int n : new int[] {0, 40, 41, -1}) {
                due.refuses("row(" + r + ", " + n + ")", x, () -> x.row(r, n), Due.BAD);
            }
        }
        due.refuses("row(0, 41)", x, () -> x.row(0, 41), Due.BAD);
        due.refuses("row(0, MAX)", x, () -> x.row(0, MAX), Due.BAD);
        due.finds("row(0, -1)", x, () -> x.row(0, -1), Due.SIZE);
        due.finds("row(0, MIN)", x, () -> x.row(0, MIN), Due.SIZE);
        due.finds("row(1, -1), which is missing", x, () -> x.row(1, -1), Due.SIZE);
        due.finds("it is missing still", x, () -> x.tear(1), Due.NOTHING);
        due.rowIs("the ROW stays", x, 0, 5, 6);
    }

    private static void lay() {
        due.by("3: Place i of a ROW is v: what it was, told by asked(): 1");
        ClothMarket x = new ClothMarket();
        x.row(0, 40);
        x.row(5, 1);
        due.tells("lay(0, 0, MIN)", x, x.lay(0, 0, MIN), 1, 0);
        due.tells("lay(0, 0, MAX)", x, x.lay(0, 0, MAX), 1, MIN);
        due.tells("lay(0, 0, -1)", x, x.lay(0, 0, -1), 1, MAX);
        due.tells("lay(0, 39, 4)", x, x.lay(0, 39, 4), 1, 0);
        due.tells("lay(0, 39, 4) again", x, x.lay(0, 39, 4), 1, 4);
        due.tells("lay(5, 0, 6)", x, x.lay(5, 0, 6), 1, 0);
        due.tells("at(0, 0)", x, x.at(0, 0), 1, -1);
        due.tells("at(0, 1)", x, x.at(0, 1), 1, 0);
        due.tells("at(0, 38)", x, x.at(0, 38), 1, 0);
        due.tells("at(0, 39)", x, x.at(0, 39), 1, 4);
        due.tells("at(5, 0)", x, x.at(5, 0), 1, 6);
    }

    private static void layRefused() {
        due.by("3: BAD; NOTHING; BEYOND");
        ClothMarket x = new ClothMarket();
        Due.see(x, 0, 5, 6, 7);
        x.row(1, 0);
        for (int i : new int[] {-1, 0, 2, 3}) {
            due.refuses("lay(-1, " + i + ", 1)", x, () -> x.lay(-1, i, 1), Due.BAD);
            due.refuses("lay(6, " + i + ", 1)", x, () -> x.lay(6, i, 1), Due.BAD);
            due.finds("lay(2, " + i + ", 1)", x, () -> x.lay(2, i, 1), Due.NOTHING);
            due.finds("lay(1, " + i + ", 1) of none", x, () -> x.lay(1, i, 1), Due.BEYOND);
        }
        for (int i : new int[] {-1, 3, 4, 39, 40, MIN, MAX}) {
            due.finds("lay(0, " + i + ", 1)", x, () -> x.lay(0, i, 1), Due.BEYOND);
        }
        x.tear(0);
        due.finds("lay(0, 0, 1), torn", x, () -> x.lay(0, 0, 1), Due.NOTHING);
    }

    private static void at() {
        due.by("4: Place i of a ROW, told by asked(): 1");
        ClothMarket x = new ClothMarket();
        Due.see(x, 4, -9, 0, MAX);
        due.tells("at(4, 0)", x, x.at(4, 0), 1, -9);
        due.tells("at(4, 1)", x, x.at(4, 1), 1, 0);
        due.tells("at(4, 2)", x, x.at(4, 2), 1, MAX);
        due.tells("at(4, 2) again", x, x.at(4, 2), 1, MAX);
    }

    private static void atRefused() {
        due.by("4: BAD; NOTHING; BEYOND");
        ClothMarket x = new ClothMarket();
        Due.see(x, 0, 5, 6, 7);
        x.row(1, 0);
        for (int i : new int[] {-1, 0, 2, 3}) {
            due.refuses("at(-1, " + i + ")", x, () -> x.at(-1, i), Due.BAD);
            due.refuses("at(6, " + i + ")", x, () -> x.at(6, i), Due.BAD);
            due.finds("at(2, " + i + ")", x, () -> x.at(2, i), Due.NOTHING);
            due.finds("at(1, " + i + ") of none", x, () -> x.at(1, i), Due.BEYOND);
        }
        for (int i : new int[] {-1, 3, 4, 39, 40, MIN, MAX}) {
            due.finds("at(0, " + i + ")", x, () -> x.at(0, i), Due.BEYOND);
        }
    }

    private static void tear() {
        due.by("5: A ROW is missing: 1");
        ClothMarket x = new ClothMarket();
        for (int r = 0; r <= 5; r++) {
            x.row(r, r == 0 ? 0 : 40);
        }
        for (int r = 0; r <= 5; r++) {
            final int row = r;
            due.is("tear(" + r + ")", x.tear(r), 1);
            due.is("ROWS", x.count(6), 5 - r);
            due.finds("at(" + r + ", 0)", x, () -> x.at(row, 0), Due.NOTHING);
        }
        due.is("row(0, 2) behind it", x.row(0, 2), 2);
        due.rowIs("row(0, 2) behind it", x, 0, 0, 0);
    }

    private static void tearRefused() {
        due.by("5: BAD; NOTHING");
        ClothMarket x = new ClothMarket();
        Due.see(x, 0, 4);
        due.refuses("tear(-1)", x, () -> x.tear(-1), Due.BAD);
        due.refuses("tear(6)", x, () -> x.tear(6), Due.BAD);
        due.refuses("tear(MIN)", x, () -> x.tear(MIN), Due.BAD);
        due.refuses("tear(MAX)", x, () -> x.tear(MAX), Due.BAD);
        due.finds("tear(1)", x, () -> x.tear(1), Due.NOTHING);
        due.rowIs("the other one stays", x, 0, 4);
        x.tear(0);
        due.finds("tear(0) again", x, () -> x.tear(0), Due.NOTHING);
    }

    private static ClothMarket five() {
        ClothMarket x = new ClothMarket();
        Due.see(x, 0, 1, 2, 3, 4, 5);
        Due.see(x, 1, 11, 12, 13);
        return x;
    }

    private static void copyAsIfTakenAhead() {
        due.by("6: n places of a ROW come to those of another one (perhaps itself) from one on, as if taken ahead: 1");
        ClothMarket x = five();
        due.is("copy(0, 0, 1, 0, 1)", x.copy(0, 0, 1, 0, 1), 1);
        due.rowIs("copy(0, 0, 1, 0, 1)", x, 1, 1, 12, 13);
        due.is("copy(0, 4, 1, 2, 1)", x.copy(0, 4, 1, 2, 1), 1);
        due.rowIs("copy(0, 4, 1, 2, 1)", x, 1, 1, 12, 5);
        due.rowIs("where they come from stays", x, 0, 1, 2, 3, 4, 5);
        due.is("copy(0, 0, 0, 1, 4)", x.copy(0, 0, 0, 1, 4), 1);
        due.rowIs("to the right in itself", x, 0, 1, 1, 2, 3, 4);
        ClothMarket y = five();
        due.is("copy(0, 1, 0, 0, 4)", y.copy(0, 1, 0, 0, 4), 1);
        due.rowIs("to the left in itself", y, 0, 2, 3, 4, 5, 5);
        due.is("copy(0, 2, 0, 2, 3)", y.copy(0, 2, 0, 2, 3), 1);
        due.rowIs("to where they are", y, 0, 2, 3, 4, 5, 5);
        due.is("asked() is not told by it", five().asked(), 0);
    }

    private static void copyOfNone() {
        due.by("6: BEYOND: with n 0, too, if i or j is below 0 or above the size");
        ClothMarket x = five();
        x.row(2, 0);
        due.is("copy(0, 0, 1, 0, 0)", x.copy(0, 0, 1, 0, 0), 1);
        due.is("copy(0, 5, 1, 3, 0)", x.copy(0, 5, 1, 3, 0), 1);
        due.is("copy(2, 0, 2, 0, 0) of a ROW of none", x.copy(2, 0, 2, 0, 0), 1);
        due.is("copy(2, 0, 0, 5, 0) of a ROW of none", x.copy(2, 0, 0, 5, 0), 1);
        due.finds("copy(0, 6, 1, 0, 0)", x, () -> x.copy(0, 6, 1, 0, 0), Due.BEYOND);
        due.finds("copy(0, -1, 1, 0, 0)", x, () -> x.copy(0, -1, 1, 0, 0), Due.BEYOND);
        due.finds("copy(0, 0, 1, 4, 0)", x, () -> x.copy(0, 0, 1, 4, 0), Due.BEYOND);
        due.finds("copy(0, 0, 1, -1, 0)", x, () -> x.copy(0, 0, 1, -1, 0), Due.BEYOND);
        due.finds("copy(2, 1, 1, 0, 0)", x, () -> x.copy(2, 1, 1, 0, 0), Due.BEYOND);
        due.rowIs("nothing comes", x, 1, 11, 12, 13);
    }

    private static void copyOfAll() {
        due.by("6: BEYOND: not so many there");
        ClothMarket x = five();
        due.is("copy(1, 0, 0, 0, 3)", x.copy(1, 0, 0, 0, 3), 1);
        due.rowIs("all of one", x, 0, 11, 12, 13, 4, 5);
        due.is("copy(1, 0, 0, 2, 3)", x.copy(1, 0, 0, 2, 3), 1);
        due.rowIs("to the end", x, 0, 11, 12, 11, 12, 13);
        due.finds("copy(1, 0, 0, 0, 4)", x, () -> x.copy(1, 0, 0, 0, 4), Due.BEYOND);
        due.finds("copy(1, 1, 0, 0, 3)", x, () -> x.copy(1, 1, 0, 0, 3), Due.BEYOND);
        due.finds("copy(1, 3, 0, 0, 1)", x, () -> x.copy(1, 3, 0, 0, 1), Due.BEYOND);
        due.finds("copy(1, 0, 0, 3, 3)", x, () -> x.copy(1, 0, 0, 3, 3), Due.BEYOND);
        due.finds("copy(1, 0, 0, 5, 1)", x, () -> x.copy(1, 0, 0, 5, 1), Due.BEYOND);
        due.finds("copy(0, 0, 1, 0, 4)", x, () -> x.copy(0, 0, 1, 0, 4), Due.BEYOND);
        due.finds("copy(0, 0, 0, 1, 5)", x, () -> x.copy(0, 0, 0, 1, 5), Due.BEYOND);
        due.finds("copy(1, -1, 0, 0, 1)", x, () -> x.copy(1, -1, 0, 0, 1), Due.BEYOND);
        due.finds("copy(1, 0, 0, -1, 1)", x, () -> x.copy(1, 0, 0, -1, 1), Due.BEYOND);
        due.finds("copy(0, 0, 0, 0, MAX)", x, () -> x.copy(0, 0, 0, 0, MAX), Due.BEYOND);
        due.finds("copy(0, 1, 0, 1, MAX)", x, () -> x.copy(0, 1, 0, 1, MAX), Due.BEYOND);
        due.finds("copy(0, MAX, 0, 0, 1)", x, () -> x.copy(0, MAX, 0, 0, 1), Due.BEYOND);
        due.finds("copy(0, 0, 0, MAX, MAX)", x, () -> x.copy(0, 0, 0, MAX, MAX), Due.BEYOND);
        due.finds("copy(0, MIN, 0, 0, MAX)", x, () -> x.copy(0, MIN, 0, 0, MAX), Due.BEYOND);
        ClothMarket full = new ClothMarket();
        full.row(0, 40);
        full.row(5, 40);
        full.lay(0, 39, 8);
        due.is("copy(0, 0, 5, 0, 40)", full.copy(0, 0, 5, 0, 40), 1);
        due.tells("the last place", full, full.at(5, 39), 1, 8);
        due.finds("copy(0, 0, 5, 0, 41)", full, () -> full.copy(0, 0, 5, 0, 41), Due.BEYOND);
    }

    private static void copyRefused() {
        due.by("6: BAD; SIZE: n below 0; NOTHING: either");
        ClothMarket x = five();
        for (int r : new int[] {-1, 6, MIN, MAX}) {
            due.refuses("copy(" + r + ", 0, 1, 0, 1)", x, () -> x.copy(r, 0, 1, 0, 1), Due.BAD);
            due.refuses("copy(0, 0, " + r + ", 0, 1)", x, () -> x.copy(0, 0, r, 0, 1), Due.BAD);
        }
        due.finds("copy(0, 0, 1, 0, -1)", x, () -> x.copy(0, 0, 1, 0, -1), Due.SIZE);
        due.finds("copy(0, 0, 1, 0, MIN)", x, () -> x.copy(0, 0, 1, 0, MIN), Due.SIZE);
        due.finds("copy(2, 0, 1, 0, 1)", x, () -> x.copy(2, 0, 1, 0, 1), Due.NOTHING);
        due.finds("copy(0, 0, 2, 0, 1)", x, () -> x.copy(0, 0, 2, 0, 1), Due.NOTHING);
        due.finds("copy(2, 0, 2, 0, 0)", x, () -> x.copy(2, 0, 2, 0, 0), Due.NOTHING);
    }

    private static void copyOrder() {
        due.by("6: (In this order.)");
        ClothMarket x = five();
        due.refuses("BAD ahead of SIZE", x, () -> x.copy(6, 0, 1, 0, -1), Due.BAD);
        due.refuses("BAD ahead of NOTHING", x, () -> x.copy(2, 0, 6, 0, 1), Due.BAD);
        due.refuses("BAD ahead of BEYOND", x, () -> x.copy(0, 9, -1, 9, 1), Due.BAD);
        due.finds("SIZE ahead of NOTHING", x, () -> x.copy(2, 0, 1, 0, -1), Due.SIZE);
        due.finds("SIZE ahead of BEYOND", x, () -> x.copy(0, 9, 1, 9, -1), Due.SIZE);
        due.finds("NOTHING ahead of BEYOND", x, () -> x.copy(2, -1, 1, 9, 1), Due.NOTHING);
        due.finds("NOTHING of the other ahead of BEYOND", x, () -> x.copy(0, 9, 2, 9, 1), Due.NOTHING);
    }

    private static void meanOf(int mean, int... places) {
        ClothMarket x = new ClothMarket();
        Due.see(x, 5, places);
        due.tells("mean(5) of " + places.length, x, x.mean(5), 1, mean);
    }

    private static void mean() {
        due.by("7: The mean of a ROW's ints, told by asked(): 1");
        meanOf(MIN, MIN);
        meanOf(MAX, MAX);
        meanOf(0, 0);
        meanOf(MAX, MAX, MAX, MAX);
        meanOf(MIN, MIN, MIN, MIN);
        int[] all = new int[40];
        java.util.Arrays.fill(all, MIN);
        meanOf(MIN, all);
        all[39] = MAX;
        meanOf((int) ((39L * MIN + MAX) / 40), all);
    }

    private static void meanCut() {
        due.by("7: cut");
        meanOf(1, 1, 2);
        meanOf(0, 0, 0, 2);
        meanOf(0, -1, 0);
        meanOf(-1, -1, -2);
        meanOf(-1, -5, 0, 0);
        meanOf(0, MIN, MAX);
    }

    private static void meanRefused() {
        due.by("7: BAD; NOTHING; NOUGHT");
        ClothMarket x = new ClothMarket();
        x.row(0, 0);
        due.refuses("mean(-1)", x, () -> x.mean(-1), Due.BAD);
        due.refuses("mean(6)", x, () -> x.mean(6), Due.BAD);
        due.finds("mean(5)", x, () -> x.mean(5), Due.NOTHING);
        due.finds("mean(0) of none", x, () -> x.mean(0), Due.NOUGHT);
    }

    private static void textIsThere() {
        due.by("8: A TEXT is there with n blanks: n");
        for (int n = 0; n <= 80; n++) {
            ClothMarket x = new ClothMarket();
            due.is("text(3, " + n + ")", x.text(3, n), n);
            due.is("TEXTS", x.count(7), 1);
            for (int i = 0; i < n; i++) {
                due.is("byte " + i + " of " + n, x.put(3, i, 65), 1032);
            }
            final int size = n;
            due.finds("no byte " + n, x, () -> x.put(3, size, 65), Due.BEYOND);
            due.is("text(3, " + n + ") anew", x.text(3, n), n);
            due.is("blanks alone again", x.fault(3), n);
            due.is("TEXTS", x.count(7), 1);
            due.is("asked() is not told by it", x.asked(), 0);
        }
    }

    private static void textRefused() {
        due.by("8: BAD: also n above 80; SIZE: below 0");
        ClothMarket x = Due.write(new ClothMarket(), 0, "g1");
        for (int t : new int[] {-1, 4, 5, MIN, MAX}) {
            for (int n : new int[] {0, 80, 81, -1}) {
                due.refuses("text(" + t + ", " + n + ")", x, () -> x.text(t, n), Due.BAD);
            }
        }
        due.refuses("text(0, 81)", x, () -> x.text(0, 81), Due.BAD);
        due.refuses("text(0, MAX)", x, () -> x.text(0, MAX), Due.BAD);
        due.finds("text(0, -1)", x, () -> x.text(0, -1), Due.SIZE);
        due.finds("text(0, MIN)", x, () -> x.text(0, MIN), Due.SIZE);
        due.finds("text(1, -1), which is missing", x, () -> x.text(1, -1), Due.SIZE);
        due.finds("it is missing still", x, () -> x.fault(1), Due.NOTHING);
        due.is("the TEXT stays", x.fault(0), Due.NONE);
    }

    private static void put() {
        due.by("9: Byte i of a TEXT: what it was, and 1000 more");
        ClothMarket x = new ClothMarket();
        x.text(0, 80);
        x.text(3, 1);
        due.is("put(0, 0, 7)", x.put(0, 0, 7), 1032);
        due.is("put(0, 79, 8)", x.put(0, 79, 8), 1032);
        due.is("put(3, 0, 9)", x.put(3, 0, 9), 1032);
        due.is("put(0, 0, 0)", x.put(0, 0, 0), 1007);
        due.is("put(0, 79, 0)", x.put(0, 79, 0), 1008);
        due.is("put(3, 0, 0)", x.put(3, 0, 0), 1009);
        due.is("put(3, 0, 1)", x.put(3, 0, 1), 1000);
        due.is("byte 1 stays", x.put(0, 1, 0), 1032);
        due.is("byte 78 stays", x.put(0, 78, 0), 1032);
        due.is("asked() is not told by it", x.asked(), 0);
    }

    private static void putCut() {
        due.by("9: v, cut to a byte (-128 .. 127)");
        int[] given = {127, 128, -128, -129, 255, 256, -1, -256, -257, 511, 32767, 65536, MAX, MIN};
        int[] kept = {127, -128, -128, 127, -1, 0, -1, 0, -1, -1, -1, 0, -1, 0};
        ClothMarket x = new ClothMarket();
        x.text(2, 1);
        for (int c = 0; c < given.length; c++) {
            x.put(2, 0, given[c]);
            due.is("put(2, 0, " + given[c] + ")", x.put(2, 0, 0), 1000 + kept[c]);
        }
        x.text(2, 2);
        x.put(2, 0, 256 + 103);
        x.put(2, 1, 49 - 512);
        due.is("cut bytes are read", x.fault(2), Due.NONE);
    }

    private static void putRefused() {
        due.by("9: BAD; NOTHING; BEYOND");
        ClothMarket x = Due.write(new ClothMarket(), 0, "g1b");
        x.text(1, 0);
        for (int i : new int[] {-1, 0, 2, 3}) {
            due.refuses("put(-1, " + i + ", 65)", x, () -> x.put(-1, i, 65), Due.BAD);
            due.refuses("put(4, " + i + ", 65)", x, () -> x.put(4, i, 65), Due.BAD);
            due.finds("put(2, " + i + ", 65)", x, () -> x.put(2, i, 65), Due.NOTHING);
            due.finds("put(1, " + i + ", 65) of none", x, () -> x.put(1, i, 65), Due.BEYOND);
        }
        for (int i : new int[] {-1, 3, 4, 79, 80, MIN, MAX}) {
            due.finds("put(0, " + i + ", 65)", x, () -> x.put(0, i, 65), Due.BEYOND);
        }
    }
}
