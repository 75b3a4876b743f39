/** The edges that the document's Terms name, sentence by sentence: ROWS, the small language, THE CLOTH, a MINUTE, LOTS. */
public final class TermsEdgesTest {
    private static final Due due = new Due();
    private static final String LETTERS = "brdctp";
    private static final int THIEF = 4;

    public static void main(String[] args) {
        orderOfRefusals();
        noneIsNoRefusal();
        findings();
        rowsAndTexts();
        spots();
        withoutBuyersAtFirst();
        sets();
        blanksAround();
        blanksWithin();
        everySign();
        firstItem();
        stallsAtMost();
        buyersAtMost();
        wholeText();
        endTooEarly();
        blanksAlone();
        stallBehindBuyer();
        firstPlaceOfTwo();
        cloth();
        clothWithTheOneAhead();
        wishNearest();
        wishOfChild();
        wishNone();
        stepOfOne();
        stepOfRich();
        stepOfRichRefused();
        stepToNoSpot();
        porters();
        order();
        sun();
        shadeEnds();
        buys();
        lots();
        due.end("TermsEdgesTest");
    }

    private static void orderOfRefusals() {
        due.by("Refused is, the first of these that fits, in this order: BAD, FULL, STATE, SPENT, FINDING");
        ClothMarket nobody = new ClothMarket();
        due.refuses("BAD ahead of STATE", nobody, () -> nobody.minutes(21), Due.BAD);
        due.refuses("BAD ahead of STATE", nobody, () -> nobody.best(0, 6), Due.BAD);
        due.refuses("BAD ahead of STATE", nobody, () -> nobody.winds(1, 0), Due.BAD);
        due.refuses("STATE ahead of FINDING", nobody, () -> nobody.fits(0, 0, 0), Due.STATE);
        due.refuses("BAD ahead of FINDING", nobody, () -> nobody.row(6, -1), Due.BAD);
        due.refuses("BAD ahead of FINDING", nobody, () -> nobody.text(-1, -1), Due.BAD);
        ClothMarket six = Due.marketOf("g1 bA0 bB0 bC0 bD0 bE0 bF0");
        due.refuses("BAD ahead of SPENT", six, () -> six.fits(63, 21, 0), Due.BAD);
        due.refuses("SPENT ahead of FINDING", six, () -> six.fits(63, 0, 0), Due.SPENT);
        due.finds("FINDING last", six, () -> six.fits(31, 0, 0), Due.NOTHING);
        due.refuses("BAD ahead of FINDING", six, () -> six.mark(0, 0), Due.BAD);
        due.by("unless a call says so otherwise");
        due.finds("market(): STATE behind NOTHING", nobody, () -> nobody.market(0), Due.NOTHING);
        six.minutes(20);
        six.minutes(20);
        six.minutes(20);
        due.refuses("minutes(): BAD ahead of FULL", six, () -> six.minutes(21), Due.BAD);
        due.refuses("minutes(): FULL last", six, () -> six.minutes(20), Due.FULL);
    }

    private static void noneIsNoRefusal() {
        due.by("NONE -9: it is no refusal");
        ClothMarket x = Due.marketOf("g1 oA00 bB- cC- pD-");
        due.is("fault", x.fault(0), -9);
        due.is("mark of a CHILD", x.mark(1, 3), -9);
        due.is("mark of a PORTER", x.mark(2, 5), -9);
        due.is("when", x.when(0), -9);
        due.is("finding()", x.finding(), 0);
        for (int f = 1; f <= 5; f++) {
            due.is("findings(" + f + ")", x.findings(f), 0);
        }
    }

    private static void findings() {
        due.by("1 NOTHING (a ROW, a TEXT, a kept MARKET that is missing)");
        ClothMarket x = Due.marketOf("g1 bA0 cB0");
        due.finds("a ROW", x, () -> x.tear(0), 1);
        due.finds("a TEXT", x, () -> x.fault(1), 1);
        due.finds("a kept MARKET", x, () -> x.on(0), 1);
        due.by("2 BEYOND (a place that there is not)");
        Due.see(x, 0, 20, 1);
        due.finds("of a ROW", x, () -> x.at(0, 2), 2);
        due.finds("of a TEXT", x, () -> x.put(0, 10, 65), 2);
        due.finds("of two ROWS", x, () -> x.copy(0, 0, 0, 1, 2), 2);
        due.by("3 UNLIKE (a BUYER of another KIND; a number that is none)");
        due.finds("another KIND", x, () -> x.mark(0, 3), 3);
        due.finds("no SPOT", x, () -> x.fits(1, 0, 0), 3);
        due.by("4 NOUGHT (shared among none; what can't be)");
        x.row(1, 0);
        due.finds("shared among none", x, () -> x.mean(1), 4);
        due.by("5 SIZE (fewer than none; not as many as due)");
        due.finds("fewer than none", x, () -> x.row(1, -1), 5);
        due.finds("not as many as due", x, () -> x.fits(1, 0, 1), 5);
    }

    private static void rowsAndTexts() {
        due.by("ROWS 0 .. 5 are rows of 0 to 40 ints, TEXTS 0 .. 3 rows of 0 to 80 bytes, or missing (at first)");
        ClothMarket x = new ClothMarket();
        for (int r = 0; r <= 5; r++) {
            final int row = r;
            due.finds("tear(" + r + ") at first", x, () -> x.tear(row), Due.NOTHING);
            due.is("row(" + r + ", 0)", x.row(r, 0), 0);
            due.is("row(" + r + ", 40)", x.row(r, 40), 40);
            due.refuses("row(" + r + ", 41)", x, () -> x.row(row, 41), Due.BAD);
            due.finds("row(" + r + ", -1)", x, () -> x.row(row, -1), Due.SIZE);
        }
        for (int t = 0; t <= 3; t++) {
            final int text = t;
            due.finds("fault(" + t + ") at first", x, () -> x.fault(text), Due.NOTHING);
            due.is("text(" + t + ", 0)", x.text(t, 0), 0);
            due.is("text(" + t + ", 80)", x.text(t, 80), 80);
            due.refuses("text(" + t + ", 81)", x, () -> x.text(text, 81), Due.BAD);
            due.finds("text(" + t + ", -1)", x, () -> x.text(text, -1), Due.SIZE);
        }
        due.is("all ROWS", x.count(6), 6);
        due.is("all TEXTS", x.count(7), 4);
    }

    private static void spots() {
        due.by("SPOTS of the ground are 0 .. 19 (in TEXTS A (65) .. T)");
        ClothMarket x = Due.marketOf("g4 oA00 oT00 tA- tT-");
        due.tells("A of a STALL", x, x.stall(0, 0), 1, 0);
        due.tells("T of a STALL", x, x.stall(1, 0), 1, 19);
        due.tells("A of a BUYER", x, x.buyer(0, 1), 1, 0);
        due.tells("T of a BUYER", x, x.buyer(1, 1), 1, 19);
        faultOf("g1oU", 3);
        faultOf("g1o@", 3);
        faultOf("g1bU", 3);
        faultOf("g1b@", 3);
    }

    private static void withoutBuyersAtFirst() {
        due.by("A MARKET (without BUYERS at first)");
        ClothMarket x = new ClothMarket();
        due.is("BUYERS", x.count(0), 0);
        due.refuses("minutes(0)", x, () -> x.minutes(0), Due.STATE);
        due.refuses("turn(0)", x, () -> x.turn(0), Due.STATE);
        due.refuses("shade()", x, x::shade, Due.STATE);
        due.refuses("keep(0)", x, () -> x.keep(0), Due.STATE);
        due.refuses("rest()", x, x::rest, Due.STATE);
        due.refuses("best(0, 0)", x, () -> x.best(0, 0), Due.STATE);
        due.refuses("missed(0)", x, () -> x.missed(0), Due.STATE);
        due.refuses("fewest()", x, x::fewest, Due.STATE);
        due.refuses("turns()", x, x::turns, Due.STATE);
        due.refuses("fits(0, 0, 0)", x, () -> x.fits(0, 0, 0), Due.STATE);
        due.refuses("winds(1, 1)", x, () -> x.winds(1, 1), Due.STATE);
    }

    private static void sets() {
        due.by("Sets (of BUYERS, of STALLS) are told by bits");
        ClothMarket x = Due.marketOf("g1 oA00 oC00 oD00 oE00 oF00 oT00 tA- tB- tC- tD- tE- tQ-");
        x.minutes(3);
        due.is("all six STALLS but those behind Q", x.shaded(), 31);
        x.minutes(3);
        due.is("by 3 on: STALL 2, at D, is at the first SPOT, 5 at the last", x.shaded(), 4 + 8 + 16 + 32);
        due.tells("BUYERS 0 and 5", x, x.fewest(), 2, 33);
    }

    private static void faultOf(String text, int place) {
        ClothMarket x = Due.write(new ClothMarket(), 1, text);
        due.is("fault of '" + text + "'", x.fault(1), place);
        due.is("market of '" + text + "'", Math.min(x.market(1), 0), place == Due.NONE ? 0 : Due.STATE);
    }

    private static final String ITEMS = "g1oA00oT39bA0rB-";
    private static final String BETWEEN = "x.x...x...x..x..x";

    private static void blanksAround() {
        due.by("blanks (32) ahead, between, behind as many as wanted");
        for (int p = 0; p <= ITEMS.length(); p++) {
            for (int n = 0; n <= 80 - ITEMS.length() && BETWEEN.charAt(p) == 'x'; n++) {
                faultOf(ITEMS.substring(0, p) + " ".repeat(n) + ITEMS.substring(p), Due.NONE);
            }
        }
        faultOf("          g1          oA00          oT39          bA0          rB-         ", Due.NONE);
    }

    private static void blanksWithin() {
        due.by("none within items");
        int within = 0;
        for (int p = 0; p < ITEMS.length(); p++) {
            if (BETWEEN.charAt(p) != 'x') {
                faultOf(ITEMS.substring(0, p) + " " + ITEMS.substring(p), p);
                faultOf(ITEMS.substring(0, p) + "  ", p);
                within++;
            }
        }
        due.is("places within items", within, 11);
    }

    /** Every byte behind what stands ahead: fine (then the end comes, too early or not), or a FAULT at its place. */
    private static void signs(String ahead, String more, String enough) {
        for (int v = -128; v <= 127; v++) {
            ClothMarket x = Due.write(new ClothMarket(), 0, ahead + "?");
            x.put(0, ahead.length(), v);
            boolean isMore = v >= 0 && more.indexOf(v) >= 0;
            boolean isEnough = v >= 0 && enough.indexOf(v) >= 0;
            int fault = isEnough ? Due.NONE : ahead.length() + (isMore ? 1 : 0);
            due.is("fault of '" + ahead + "' and byte " + v, x.fault(0), fault);
        }
    }

    private static void everySign() {
        due.by("a letter, a sign, a figure that is none such: its place");
        String ground = "ABCDEFGHIJKLMNOPQRST";
        signs("", "g ", "");
        signs("  ", "g ", "");
        signs("g", "", "1234");
        signs("g1", "o" + LETTERS, " ");
        signs("g1 ", "o" + LETTERS, " ");
        signs("g1o", ground, "");
        signs("g1oA", "0123", "");
        signs("g1oA0", "", "0123456789");
        signs("g1oA00", "o" + LETTERS, " ");
        signs("g1oA00oA00oA00oA00oA00oA00", LETTERS, " ");
        for (int k = 0; k < LETTERS.length(); k++) {
            signs("g1" + LETTERS.charAt(k), ground, "");
            signs("g1" + LETTERS.charAt(k) + "A", "", "0123-");
            signs("g1" + LETTERS.charAt(k) + "A0", LETTERS, " ");
        }
        signs("g2bB0b", "CD", "");
        signs("g2tB0b", "CDEFGHIJKLMNOPQRST", "");
        signs("g2bB0t", "CDEFGHIJKLMNOPQRST", "");
        signs("g2bT0t", "", "");
        signs("g1bA0bB0bC0bD0bE0bF0", "", " ");
    }

    private static void firstItem() {
        due.by("The first item is g (103) and the REACH (1 .. 4, one figure)");
        for (int reach = 1; reach <= 4; reach++) {
            faultOf("g" + reach, Due.NONE);
        }
        faultOf("g0", 1);
        faultOf("g5", 1);
        faultOf("g-", 1);
        faultOf("g11", 2);
        faultOf("oA00g1", 0);
        faultOf("bA0g1", 0);
        faultOf("g1g1", 2);
        faultOf("g1oA00g1", 6);
        faultOf("g1bA0g1", 5);
    }

    private static void stallsAtMost() {
        due.by("then STALLS (6 at most, none, too; 0, 1, .. as they come); a seventh one: its letter");
        StringBuilder s = new StringBuilder("g1");
        for (int k = 0; k <= 6; k++) {
            faultOf(s.toString(), Due.NONE);
            due.is("STALLS", Due.marketOf(s.toString()).count(1), k);
            s.append(" o").append((char) ('T' - k)).append(k % 4).append(k);
        }
        faultOf(s.toString(), 33);
        faultOf("g1 oA00 oA00 oA00 oA00 oA00 oA00 o", 33);
        ClothMarket x = Due.marketOf(s.substring(0, 32));
        for (int k = 0; k < 6; k++) {
            due.tells("SPOT of STALL " + k, x, x.stall(k, 0), 1, 19 - k);
            due.tells("GOOD of STALL " + k, x, x.stall(k, 1), 1, k % 4);
            due.tells("PRICE of STALL " + k, x, x.stall(k, 2), 1, k);
        }
    }

    private static void buyersAtMost() {
        due.by("then BUYERS (6 at most, none, too; 0, 1, ..); a seventh one: its letter");
        StringBuilder s = new StringBuilder("g1");
        for (int i = 0; i <= 6; i++) {
            faultOf(s.toString(), Due.NONE);
            due.is("BUYERS", Due.marketOf(s.toString()).count(0), i);
            s.append(' ').append("brdctpb".charAt(i)).append((char) ('A' + i)).append("0123-00".charAt(i));
        }
        faultOf(s.toString(), 27);
        faultOf(s.substring(0, 28), 27);
        ClothMarket x = Due.marketOf(s.substring(0, 26));
        int[] goods = {0, 1, 2, 3, Due.NONE, 0};
        for (int i = 0; i < 6; i++) {
            due.tells("KIND of BUYER " + i, x, x.buyer(i, 0), 1, i);
            due.tells("SPOT of BUYER " + i, x, x.buyer(i, 1), 1, i);
            due.tells("want of BUYER " + i, x, x.buyer(i, 2), 1, goods[i]);
        }
    }

    private static void wholeText() {
        due.by("A MARKET is a TEXT: of 80 bytes, too");
        String all = "g4 oA00 oB11 oC22 oD33 oE04 oF15 bA0 rB1 dC2 cD3 tE- pF0";
        faultOf(" ".repeat(80 - all.length()) + all, Due.NONE);
        faultOf(all + " ".repeat(80 - all.length()), Due.NONE);
        faultOf(all + " ".repeat(79 - all.length()) + "b", 79);
        faultOf(" ".repeat(78) + "g4", Due.NONE);
        faultOf(" ".repeat(79) + "g", 80);
        faultOf(" ".repeat(74) + "g4oA00", Due.NONE);
        faultOf(" ".repeat(75) + "g4oA0", 80);
    }

    private static void endTooEarly() {
        due.by("the TEXT's size, if its end comes too early");
        String[] parts = {"", "g", "g1 o", "g1 oA", "g1 oA0", "g1 b", "g1 bA", "g1 oA00 o", "g1 bA0 b", "g1 bA0 bB"};
        for (String part : parts) {
            faultOf(part, part.length());
        }
    }

    private static void blanksAlone() {
        due.by("the TEXT's size, if there are blanks alone");
        ClothMarket x = new ClothMarket();
        for (int n = 0; n <= 80; n++) {
            x.text(0, n);
            due.is("fault of " + n + " blanks", x.fault(0), n);
        }
    }

    private static void stallBehindBuyer() {
        due.by("a STALL behind a BUYER: its letter");
        faultOf("g1 bA0 oA00", 7);
        faultOf("g1 bA0 bB0 o", 11);
        faultOf("g1 oA00 bA0oA00", 11);
        faultOf("g1 bA0 bB0 bC0 bD0 bE0 bF0 oA00", 27);
    }

    private static void firstPlaceOfTwo() {
        due.by("A FAULT is the first place at which it can't go on so");
        faultOf("g9 x", 1);
        faultOf("g1 oU99", 4);
        faultOf("g1 oA9x", 5);
        faultOf("g1 bA0 bA9", 8);
        faultOf("g1 bA0 bA", 8);
        faultOf("g1 bA0 b", 8);
        faultOf("g1 bA9 bA0", 5);
        faultOf("g1 bA0 xB0 oA00", 7);
    }

    /** Two of these KINDS so far apart, by that REACH: is THE CLOTH kept? */
    private static boolean isKept(int reach, int one, int two, int gap) {
        return gap > 0 && (gap <= reach || one == THIEF || two == THIEF);
    }

    private static void cloth() {
        due.by("each BUYER's SPOT is above that of the one ahead, always, and by no more than REACH, if neither of both is a THIEF");
        int[][] ends = {{0, 1}, {0, 19}, {1, 0}, {19, 0}, {19, 19}, {0, 0}};
        for (int reach = 1; reach <= 4; reach++) {
            for (int pair = 0; pair < 36; pair++) {
                for (int to = 2; to <= 18; to++) {
                    two(reach, pair / 6, pair % 6, 10, to);
                }
                for (int[] e : ends) {
                    two(reach, pair / 6, pair % 6, e[0], e[1]);
                }
            }
        }
    }

    private static void two(int reach, int one, int other, int from, int to) {
        String text = "g" + reach + LETTERS.charAt(one) + (char) ('A' + from) + '-' + LETTERS.charAt(other) + (char) ('A' + to) + '-';
        ClothMarket x = Due.write(new ClothMarket(), 0, text);
        due.is("fault of " + text, x.fault(0), isKept(reach, one, other, to - from) ? Due.NONE : 6);
    }

    private static void clothWithTheOneAhead() {
        due.by("a BUYER's SPOT by which THE CLOTH is not kept with the one ahead: its place");
        faultOf("g2bA-bC-bE-bG-bI-bK-", Due.NONE);
        faultOf("g2bA-bC-bE-bG-bI-bL-", 18);
        faultOf("g2bA-bC-bE-bG-bI-bI-", 18);
        faultOf("g2bA-bC-bF-bG-bI-bJ-", 9);
        faultOf("g2tA-bJ-bK-bN-", 12);
        faultOf("g2bA-tJ-bT-", Due.NONE);
    }

    private static void wishes(String text, int way) {
        ClothMarket x = Due.marketOf(text);
        due.tells("wish(0) of " + text, x, x.wish(0), 1, way);
    }

    private static void wishNearest() {
        due.by("the way (-1, 0, 1) to the nearest STALL (of alike ones that of the lesser SPOT) of the GOOD that one wants");
        wishes("g1 oA00 oT00 bJ0", -1);
        wishes("g1 oA00 oT00 bK0", 1);
        wishes("g1 oA00 oS00 bJ0", -1);
        wishes("g1 oS00 oA00 bJ0", -1);
        wishes("g1 oT00 bA0", 1);
        wishes("g1 oA00 bT0", -1);
        wishes("g1 oI00 oL00 bJ0", -1);
        wishes("g1 oI10 oL00 bJ0", 1);
        for (int good = 0; good <= 3; good++) {
            wishes("g1 oA" + (good + 1) % 4 + "0 oT" + good + "0 bB" + good, 1);
        }
        wishes("g1 oT10 oS10 oR10 oQ10 oP10 oA00 rJ0", -1);
    }

    private static void wishOfChild() {
        due.by("a CHILD: of that, or of sweets");
        wishes("g1 oA00 oT30 cJ0", -1);
        wishes("g1 oA00 oT30 cK0", 1);
        wishes("g1 oA30 oS00 cJ0", -1);
        wishes("g1 oA00 oS30 cJ0", -1);
        wishes("g1 oT30 cA-", 1);
        wishes("g1 oA30 cA-", 0);
        wishes("g1 oA30 oT00 cA0", 0);
        wishes("g1 oA00 oT30 cA0", 0);
        wishes("g1 oA10 oT30 cA0", 1);
        wishes("g1 oA30 cT3", -1);
        wishes("g1 oA30 bT0", 0);
        wishes("g1 oA30 oT00 rB0", 1);
    }

    private static void wishNone() {
        due.by("0, if there is none, or it is there; of a BORED one (THIEF, too) 0");
        wishes("g1 bJ0", 0);
        wishes("g1 oA10 bJ0", 0);
        wishes("g1 oA00 bJ-", 0);
        wishes("g1 oJ00 oA00 bJ0", 0);
        wishes("g1 oJ10 oA00 bJ0", -1);
        wishes("g1 oA00 dJ0", 0);
        wishes("g1 oA00 tJ0", 0);
        wishes("g1 oA30 dJ3", 0);
        wishes("g1 oA30 tJ3", 0);
        wishes("g1 oA00 cJ1", 0);
    }

    /** SPOTS behind n MINUTES. */
    private static void goes(String text, int n, String spots) {
        due.standAt(text + " behind " + n, Due.behind(text, n), spots);
    }

    private static void stepOfOne() {
        due.by("To STEP by a way a BUYER goes 1 that way, if it is a SPOT, and THE CLOTH is kept");
        goes("g4 oA00 bD0", 1, "C");
        goes("g4 oT00 bD0", 1, "E");
        goes("g4 oA00 bB0", 1, "A");
        goes("g4 oT00 bS0", 1, "T");
        goes("g4 oA00 bD0", 9, "A");
        goes("g4 oA00 dB- bD0", 1, "BC");
        goes("g4 oA00 dC- bD0", 1, "CD");
        goes("g4 oT00 bC0 dE-", 1, "DE");
        goes("g4 oT00 bC0 dD-", 1, "CD");
        goes("g2 oA00 bC0 dD-", 1, "BD");
        goes("g2 oA00 bC0 dE-", 1, "CE");
        goes("g2 oT00 dC- bD0", 1, "CE");
        goes("g2 oT00 dC- bE0", 1, "CE");
        goes("g2 oT00 dB- bD0 dF-", 1, "BDF");
        goes("g3 oT00 dB- bD0 dF-", 1, "BEF");
        goes("g2 oA00 dB- bD0 dF-", 1, "BDF");
        goes("g3 oA00 dB- bD0 dF-", 1, "BCF");
        goes("g1 oA00 bC0 tE-", 2, "AE");
        goes("g1 oA00 tB- bC0", 1, "BC");
        goes("g1 oT00 bC0 tD-", 1, "CD");
        goes("g1 oT00 tC- bD0", 2, "CF");
        goes("g4 oT30 cC0 dD-", 1, "CD");
        goes("g4 oT30 cC0 dE-", 1, "DE");
    }

    private static void stepOfRich() {
        due.by("A RICH one, where THE CLOTH would not be kept between it and a neighbour, takes that neighbour along, and so on");
        goes("g4 oT00 rC0 dD-", 1, "DE");
        goes("g4 oT00 rC0 dE-", 1, "DE");
        goes("g2 oT00 dA- rC0", 1, "BD");
        goes("g2 oT00 dB- rC0", 1, "BD");
        goes("g4 oA00 dC- rD0", 1, "BC");
        goes("g4 oA00 dB- rD0", 1, "BC");
        goes("g2 oA00 rC0 dE-", 1, "BD");
        goes("g2 oA00 rC0 dD-", 1, "BD");
        goes("g2 oT00 tA- rC0", 1, "AD");
        goes("g2 oT00 rC0 tD-", 1, "DE");
        goes("g2 oA00 tB- rC0", 1, "AB");
        goes("g2 oT00 dA- dC- dE- rG0", 1, "BDFH");
        goes("g2 oT00 dA- dB- dD- rF0", 1, "ACEG");
        goes("g2 oT00 tA- dC- dE- rG0", 1, "ADFH");
        goes("g4 oT00 rC0 dD- dE- dG-", 1, "DEFG");
        goes("g1 oT00 dA- dB- rC0 dD- dE- dF-", 1, "BCDEFG");
        goes("g1 oA00 dB- dC- dD- rE0 dF- dG-", 1, "ABCDEF");
        goes("g1 oT00 rA0 dB- dC- dD- dE- dF-", 1, "BCDEFG");
        goes("g1 oA00 dO- dP- dQ- dR- dS- rT0", 1, "NOPQRS");
        goes("g1 oT00 bA- cB- rC0 tD-", 1, "BCDE");
    }

    private static void stepOfRichRefused() {
        due.by("if one would be taken along that is RICH (PORTER, too), none of them goes");
        goes("g1 oT00 rC0 rD-", 1, "CD");
        goes("g4 oT00 rC0 rD-", 1, "CD");
        goes("g4 oT00 rC0 rE-", 1, "DE");
        goes("g4 oT00 rC0 pD-", 1, "CD");
        goes("g1 oT00 rC0 dD- rE-", 1, "CDE");
        goes("g1 oT00 rC0 dD- pE-", 1, "CDE");
        goes("g4 oT00 rC0 dD- rF-", 1, "DEF");
        goes("g1 oT00 rA- dB- rC0 dD-", 1, "ABCD");
        goes("g1 oT00 pA- dB- rC0 dD-", 1, "ABCD");
        goes("g1 oA00 rA- dB- rC0 dD-", 1, "ABCD");
        goes("g1 oA00 rB- dC- rD0", 1, "BCD");
        goes("g1 oA00 rC0 dD- dE- rF-", 1, "CDEF");
        goes("g2 oA00 rC0 dD- dE- rF-", 1, "BDEF");
    }

    private static void stepToNoSpot() {
        due.by("if one would be taken along that goes to no SPOT, none of them goes");
        goes("g1 oT00 rR0 dS- dT-", 1, "RST");
        goes("g1 oT00 rQ0 dR- dS-", 1, "RST");
        goes("g1 oA00 dA- dB- rC0", 1, "ABC");
        goes("g1 oA00 dB- dC- rD0", 1, "ABC");
        goes("g1 oT00 dQ- rR0 dS- dT-", 1, "QRST");
        goes("g1 oA00 dA- dB- rC0 dD-", 1, "ABCD");
        goes("g1 oT00 rS0 tT-", 1, "ST");
        goes("g1 oA00 tA- rB0", 1, "AB");
    }

    private static void porters() {
        due.by("RICH ones (PORTERS, too) STEP by their WISH (PORTERS once more, by their WISH then)");
        goes("g1 oT00 rC0", 1, "D");
        goes("g1 oT00 pC0", 1, "E");
        goes("g1 oA00 pC0", 1, "A");
        goes("g1 oE00 pC0", 1, "E");
        goes("g1 oD00 pC0", 1, "D");
        goes("g1 oC00 pC0", 1, "C");
        goes("g1 oT00 pQ0 dR- dS-", 1, "RST");
        goes("g1 oT00 pC0 dD-", 1, "EF");
        goes("g2 oT00 dB- pC0", 1, "CE");
        goes("g2 oA00 dA- pC0", 1, "AB");
    }

    private static void order() {
        due.by("first, by numbers, RICH ones; then, by numbers, all others");
        goes("g2 oA00 rC0 rD0", 1, "BC");
        goes("g2 oT00 rC0 rD0", 1, "CE");
        goes("g2 oT00 rC0 rD0", 2, "DF");
        goes("g2 oA00 pE0 rF0", 1, "DE");
        goes("g4 oT00 pC0 rE0", 1, "DF");
        goes("g4 oA00 bC0 bD0", 1, "BC");
        goes("g4 oT00 bC0 bD0", 1, "CE");
        goes("g4 oT00 bC0 rD0", 1, "DE");
        goes("g4 oA00 rC0 bD0", 1, "BC");
        goes("g4 oA30 cC0 cD0", 1, "BC");
    }

    private static void sun() {
        due.by("THE SUN: MINUTES that went, with this one, modulo 7, less 3");
        ClothMarket x = Due.marketOf("g1 bK-");
        for (int m = 0; m <= 60; m++) {
            due.tells("shade() at " + m, x, x.shade(), 1, 10 + m % 7 - 3);
            due.tells("track(0, 0) at " + m, x, x.track(0, 0), 1, m % 7 - 3);
            x.minutes(1);
        }
    }

    /** In which of the first 7 MINUTES (bits) that one BUYS, who wants it anew each time. */
    private static int buysIn(String text, int i, int good) {
        ClothMarket x = Due.marketOf(text);
        int set = 0;
        for (int m = 1; m <= 7; m++) {
            x.want(i, good);
            set |= x.minutes(1) << m;
        }
        return set;
    }

    private static void shadeEnds() {
        due.by("THE SHADE is the SPOTS from that of BUYER 0 to that of the last one, all moved by THE SUN");
        due.is("alone: by 0", buysIn("g1 oF00 tF-", 0, 0), 1 << 3);
        due.is("the first of two: by -2 .. 0", buysIn("g1 oF00 tF- tH-", 0, 0), 1 << 1 | 1 << 2 | 1 << 3);
        due.is("the last of two: by 0 .. 2", buysIn("g1 oH00 tF- tH-", 1, 0), 1 << 3 | 1 << 4 | 1 << 5);
        due.is("the middle one: by -1 .. 1", buysIn("g1 oG00 tF- tG- tH-", 1, 0), 1 << 2 | 1 << 3 | 1 << 4);
        due.is("three apart: by -3 .. 0", buysIn("g1 oF00 tF- tI-", 0, 0), 1 << 1 | 1 << 2 | 1 << 3 | 1 << 7);
        due.is("all the ground: always but beyond its end", buysIn("g1 oT00 tA- tT-", 1, 0), 1 << 3 | 1 << 4 | 1 << 5 | 1 << 6);
        due.is("all the ground: always but ahead of its begin", buysIn("g1 oA00 tA- tT-", 0, 0), 1 << 1 | 1 << 2 | 1 << 3 | 1 << 7);
        due.by("Then THE SHADE is the SPOTS ..: as they are behind the STEPS");
        due.is("BUYER 0 comes to C and lets THE SHADE, A .. D, reach C", Due.marketOf("g4 oC00 bB0 dF-").minutes(1), 1);
        due.is("BUYER 1 comes to D, and THE SHADE is A .. B", Due.marketOf("g4 oD00 dC- bE0").minutes(1), 0);
    }

    private static void buys() {
        due.by("each who is at a STALL of the GOOD that one wants, in THE SHADE, BUYS it (at the first such STALL)");
        ClothMarket x = Due.marketOf("g4 oD01 oC12 oC03 oC04 tC0 tE- tG-");
        due.is("minutes(1)", x.minutes(1), 1);
        int[] sold = {0, 0, 1, 0};
        for (int k = 0; k < 4; k++) {
            due.tells("sold at STALL " + k, x, x.stall(k, 3), 1, sold[k]);
        }
        due.by("pays its PRICE, and wants nothing any more");
        due.tells("paid", x, x.buyer(0, 3), 1, 3);
        due.tells("wants nothing", x, x.buyer(0, 2), 1, Due.NONE);
        due.is("no second one", x.minutes(6), 0);
        x.price(2, 99);
        x.want(0, 0);
        due.is("another one", x.minutes(2), 1);
        due.tells("the PRICE as it is", x, x.buyer(0, 3), 1, 102);
        due.is("who wants nothing BUYS nothing", Due.marketOf("g4 oC00 oC30 tC- tE-").minutes(7), 0);
        due.is("a CHILD BUYS no sweets unless wanted", Due.marketOf("g4 oC30 cC0 tE-").minutes(7), 0);
        due.is("a CHILD BUYS sweets that are wanted", Due.marketOf("g4 oC30 cC3 tE-").minutes(7), 1);
        due.is("six BUY in a MINUTE", Due.marketOf("g1 oA00 oB10 oC20 oD30 oE00 oF10 dA0 dB1 dC2 tD3 dE0 tF1").minutes(3), 6);
    }

    /** One alone at a STALL BUYS when THE SUN and the wind together are 0: by a wind of 1 in MINUTE 2, of 0 in 3, of -1 in 4. */
    private static void lots() {
        due.by("a number comes from the one ahead by 48271 times it modulo 2147483647, the first from a seed (1 .. 2147483646)");
        ClothMarket x = Due.marketOf("g4 oC07 tC0");
        int[] seeds = {1, 2, 3, 48271, 1073741824, 2147483645, 2147483646};
        for (int seed : seeds) {
            java.math.BigInteger lot = java.math.BigInteger.valueOf(seed);
            int sale = 0;
            for (int m = 1; m <= 60; m++) {
                lot = lot.multiply(java.math.BigInteger.valueOf(48271)).mod(java.math.BigInteger.valueOf(2147483647));
                sale = sale == 0 && m % 7 - 3 + lot.mod(java.math.BigInteger.valueOf(3)).intValue() - 1 == 0 ? m : sale;
                if (m < 15 || m == 60) {
                    due.tells("winds(" + m + ", " + seed + ")", x, x.winds(m, seed), sale == 0 ? 0 : 1, sale == 0 ? 0 : 7);
                }
            }
        }
    }
}
