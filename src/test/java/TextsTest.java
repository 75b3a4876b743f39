/** Promises 8 to 11: text, put, fault, market. */
public final class TextsTest {
    private static final Due due = new Due();

    public static void main(String[] args) {
        text();
        put();
        fault();
        market();
        due.end("TextsTest");
    }

    private static void text() {
        ClothMarket x = new ClothMarket();
        due.is("text(0, 80)", x.text(0, 80), 80);
        due.is("text(3, 0)", x.text(3, 0), 0);
        due.is("count(7)", x.count(7), 2);
        due.is("a blank at its end", x.put(0, 79, 65), 1032);
        due.is("text(0, 80) anew", x.text(0, 80), 80);
        due.is("a blank again", x.put(0, 79, 65), 1032);
        due.refuses("text(4, 1)", x, () -> x.text(4, 1), Due.BAD);
        due.refuses("text(-1, 1)", x, () -> x.text(-1, 1), Due.BAD);
        due.refuses("text(0, 81)", x, () -> x.text(0, 81), Due.BAD);
        due.refuses("text(4, -1)", x, () -> x.text(4, -1), Due.BAD);
        due.finds("text(0, -1)", x, () -> x.text(0, -1), Due.SIZE);
    }

    private static void put() {
        ClothMarket x = new ClothMarket();
        x.text(1, 3);
        due.is("put(1, 0, 127)", x.put(1, 0, 127), 1032);
        due.is("put(1, 0, 128)", x.put(1, 0, 128), 1127);
        due.is("put(1, 0, 511)", x.put(1, 0, 511), 872);
        due.is("put(1, 0, 0)", x.put(1, 0, 0), 999);
        due.is("put(1, 0, 1)", x.put(1, 0, 1), 1000);
        due.is("asked() stays", x.asked(), 0);
        due.finds("put(1, 3, 0)", x, () -> x.put(1, 3, 0), Due.BEYOND);
        due.finds("put(1, -1, 0)", x, () -> x.put(1, -1, 0), Due.BEYOND);
        due.finds("put(2, -1, 0)", x, () -> x.put(2, -1, 0), Due.NOTHING);
        due.refuses("put(4, 0, 0)", x, () -> x.put(4, 0, 0), Due.BAD);
        due.refuses("put(-1, 0, 0)", x, () -> x.put(-1, 0, 0), Due.BAD);
    }

    private static void faultOf(String text, int place) {
        ClothMarket x = Due.write(new ClothMarket(), 2, text);
        due.is("fault of '" + text + "'", x.fault(2), place);
        if (place == Due.NONE) {
            due.is("market of '" + text + "'", x.market(2) >= 0 ? 1 : 0, 1);
        } else {
            due.refuses("market of '" + text + "'", x, () -> x.market(2), Due.STATE);
        }
    }

    private static void fault() {
        faultOf("g1", Due.NONE);
        faultOf("  g4  ", Due.NONE);
        faultOf("g1oA00oT39bA0", Due.NONE);
        faultOf("g2  oA00   oT39 bA-  dB3 ", Due.NONE);
        faultOf("g1oA00oB11oC22oD33oE04oF15bA0rB1dC2cD3tE-pF0", Due.NONE);
        faultOf("g1bA0", Due.NONE);
        faultOf("g1 tA0 bT0", Due.NONE);
        faultOf("g1 bA0 tT0", Due.NONE);
        faultOf("g4 bA0 bE0", Due.NONE);
        endsEarly();
        wrongSigns();
        wrongOrder();
        clothNotKept();
        ClothMarket x = new ClothMarket();
        due.finds("fault of nothing", x, () -> x.fault(0), Due.NOTHING);
        due.refuses("fault(4)", x, () -> x.fault(4), Due.BAD);
        due.refuses("fault(-1)", x, () -> x.fault(-1), Due.BAD);
    }

    private static void endsEarly() {
        faultOf("", 0);
        faultOf("   ", 3);
        faultOf("g", 1);
        faultOf("g1 o", 4);
        faultOf("g1 oA", 5);
        faultOf("g1 oA0", 6);
        faultOf("g1 b", 4);
        faultOf("g1 bA", 5);
    }

    private static void wrongSigns() {
        faultOf("x1", 0);
        faultOf("  oA00", 2);
        faultOf("g0", 1);
        faultOf("g5", 1);
        faultOf("g 1", 1);
        faultOf("g12", 2);
        faultOf("g1 g1", 3);
        faultOf("g1 oU00", 4);
        faultOf("g1 oa00", 4);
        faultOf("g1 o@00", 4);
        faultOf("g1 o A00", 4);
        faultOf("g1 oA40", 5);
        faultOf("g1 oA-0", 5);
        faultOf("g1 oA0/", 6);
        faultOf("g1 oA0:", 6);
        faultOf("g1 oA0 ", 6);
        faultOf("g1 BA0", 3);
        faultOf("g1 bU0", 4);
        faultOf("g1 b A0", 4);
        faultOf("g1 bA4", 5);
        faultOf("g1 bA ", 5);
        faultOf("g1 bA+", 5);
        faultOf("g1 bA00", 6);
        faultOf("g1 " + (char) 226 + "A0", 3);
    }

    private static void wrongOrder() {
        faultOf("g1 bA0 oB00", 7);
        faultOf("g1oA00oA00oA00oA00oA00oA00oA00", 26);
        faultOf("g1bA0bB0bC0bD0bE0bF0bG0", 20);
        faultOf("g1bA0bB0bC0bD0bE0bF0oG0", 20);
    }

    private static void clothNotKept() {
        faultOf("g1 bA0 bC0", 8);
        faultOf("g4 bA0 bF0", 8);
        faultOf("g1 bB0 bB0", 8);
        faultOf("g1 bB0 bA0", 8);
        faultOf("g1 tB0 bB0", 8);
        faultOf("g1 bC0 tA0", 8);
        faultOf("g1 bA0 bC", 8);
        faultOf("g1 bA0 bC9", 8);
        faultOf("g1 tA0 bJ0 bL0", 12);
    }

    private static void market() {
        ClothMarket x = Due.write(new ClothMarket(), 0, "g2 oC15 bC1 dD-");
        due.is("market(0)", x.market(0), 2);
        due.is("BUYERS", x.count(0), 2);
        due.is("STALLS", x.count(1), 1);
        x.minutes(5);
        x.keep(0);
        x.keep(2);
        x.price(0, 50);
        x.put(0, 0, 120);
        due.is("market(0) of a FAULT", x.market(0), Due.STATE);
        due.is("MINUTE stays", x.count(2), 5);
        due.is("kept ones stay", x.count(5), 2);
        x.put(0, 0, 103);
        due.is("market(0) anew", x.market(0), 2);
        due.is("MINUTE 0", x.count(2), 0);
        due.is("kept ones go", x.count(5), 0);
        due.finds("on(0)", x, () -> x.on(0), Due.NOTHING);
        x.buyer(0, 3);
        due.is("nothing paid", x.asked(), 0);
        x.stall(0, 3);
        due.is("nothing bought", x.asked(), 0);
        x.stall(0, 2);
        due.is("the PRICE by the TEXT", x.asked(), 5);
        due.is("nothing to undo", x.undo(0), 0);
        x.minutes(4);
        x.keep(0);
        x.on(0);
        due.is("market(0) behind on()", x.market(0), 2);
        x.minutes(2);
        due.is("all can be undone behind it", x.undo(0), 2);
        Due.write(x, 1, "g3");
        due.is("a MARKET of nobody", x.market(1), 0);
        due.is("without STALLS", x.count(1), 0);
        due.finds("market of nothing", x, () -> x.market(3), Due.NOTHING);
        due.refuses("market(4)", x, () -> x.market(4), Due.BAD);
        due.refuses("market(-1)", x, () -> x.market(-1), Due.BAD);
    }
}
