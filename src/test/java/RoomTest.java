import java.lang.management.ManagementFactory;

/** Calls make no objects; the constructor makes few; and no call throws, whatever numbers it is given. */
public final class RoomTest {
    private static final Due due = new Due();
    private static final int[] NUMBERS = {Integer.MIN_VALUE, -1000, -10, -9, -1, 0, 1, 2, 3, 4, 5, 6, 7, 19, 20, 21, 31, 32,
        33, 40, 41, 60, 61, 63, 64, 80, 81, 99, 100, 2147483646, Integer.MAX_VALUE};
    private static final String[] TEXTS = {"", "g1", "g1 oA00", "g1 bA0", "g4 oA09 tA- tT-",
        "g3 oB14 oH03 oM37 oT22 rE0 bG1 dH- cJ2 tM1 pP0"};

    public static void main(String[] args) {
        for (String text : TEXTS) {
            ClothMarket x = Due.write(new ClothMarket(), 0, text);
            x.market(0);
            anyNumbers(x);
            x.minutes(20);
            anyNumbers(x);
        }
        roomOfCalls();
        due.end("RoomTest");
    }

    private static void anyNumbers(ClothMarket x) {
        for (int a : NUMBERS) {
            x.tear(a);
            x.mean(a);
            x.fault(a);
            x.wish(a);
            x.undo(a);
            x.turn(a);
            x.on(a);
            x.when(a);
            x.bought(a);
            x.missed(a);
            x.count(a);
            x.findings(a);
            x.keep(a);
            x.minutes(a);
            for (int b : NUMBERS) {
                twoNumbers(x, a, b);
            }
            due.is("the MINUTE is 60 at most", x.count(2) <= 60 ? 1 : 0, 1);
        }
        x.shade();
        x.shaded();
        x.rest();
        x.fewest();
        x.turns();
        x.upper();
        x.lower();
        x.digest();
    }

    private static void twoNumbers(ClothMarket x, int a, int b) {
        x.row(a, b);
        x.at(a, b);
        x.lay(a, b, a);
        x.copy(a, b, b, a, 1);
        x.copy(1, a, 2, b, b);
        x.buyer(a, b);
        x.stall(a, b);
        x.mark(a, b);
        x.want(a, b);
        x.price(a, b);
        x.track(a, b);
        x.best(a, b);
        x.spot(a, b);
        x.winds(a, b);
        x.fits(a, 3, b);
        x.could(a, 3, b, 1);
        x.could(3, a, 1, b);
        if (a != 0) {
            x.text(a, b);
            x.put(a, b, a);
        }
    }

    private static void dearCalls(ClothMarket x) {
        x.track(20, 0);
        x.lay(0, 0, -9);
        for (int n = 0; n < 10; n++) {
            x.fits(31, 20, 0);
            x.could(31, 20, 0, 1);
            x.best(20, 1);
            x.spot(0, 20);
            x.missed(20);
            x.rest();
            x.winds(60, 7);
            x.minutes(3);
            x.undo(1);
            x.keep(1);
            x.on(1);
            x.market(0);
            x.row(3, 40);
            x.text(3, 80);
            x.fewest();
            x.turns();
            x.digest();
        }
    }

    private static void roomOfCalls() {
        com.sun.management.ThreadMXBean room = (com.sun.management.ThreadMXBean) ManagementFactory.getThreadMXBean();
        ClothMarket x = Due.marketOf(TEXTS[5]);
        dearCalls(x);
        long before = room.getCurrentThreadAllocatedBytes();
        dearCalls(x);
        long calls = room.getCurrentThreadAllocatedBytes() - before;
        due.is("170 dear calls made " + calls + " bytes", calls < 2000 ? 1 : 0, 1);
        before = room.getCurrentThreadAllocatedBytes();
        new ClothMarket();
        long made = room.getCurrentThreadAllocatedBytes() - before;
        due.is("an object has " + made + " bytes", made < 40000 ? 1 : 0, 1);
    }
}
