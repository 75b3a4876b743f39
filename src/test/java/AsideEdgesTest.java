/** The edges that promises 25 to 28 and 36 name, sentence by sentence: when, bought, rest, track, winds. */
public final class AsideEdgesTest {
    private static final Due due = new Due();
    private static final int MIN = Integer.MIN_VALUE, MAX = Integer.MAX_VALUE;
    private static final String ONE = "g4 oC15 bD1";
    /** The longest way to a rest that a search has found: a CHILD BUYS, then goes to the sweets. */
    private static final String LONG = "g4oE07oA26oN00oT37oB17oR22cH2";

    public static void main(String[] args) {
        when();
        whenWhere();
        whenNot();
        whenRefused();
        bought();
        boughtOfNobody();
        boughtRefused();
        rest();
        restForTheFirstTime();
        restRefused();
        track();
        trackOfNobody();
        trackRefused();
        winds();
        windsRefused();
        aside();
        due.end("AsideEdgesTest");
    }

    private static void when() {
        due.by("25: In how many MINUTES from now (1 ..) a BUYER BUYS, 60 at most");
        due.is("at once", Due.marketOf("g4 oC15 bC1 bF-").when(0), 1);
        for (int minute = 53; minute <= 60; minute++) {
            due.is("beyond MINUTE 60, from " + minute, late(minute).when(0), minute < 59 ? 59 - minute : 66 - minute);
        }
        ClothMarket x = Due.marketOf(ONE);
        for (int m = 0; m < 3; m++) {
            due.is("when(0) at " + m, x.when(0), 3 - m);
            due.is("when(0) says when: minutes(1)", x.minutes(1), m == 2 ? 1 : 0);
        }
        x.want(0, 1);
        due.is("when(0): not at once, though it stands there", x.when(0), 7);
        // The longest that a search has found: 18 STEPS, then THE SUN has to be 0.
        ClothMarket far = Due.marketOf("g3 oS33 bA3");
        due.is("the longest", far.when(0), 24);
        due.is("not in 23", far.bought(23), 0);
        due.is("in 24", far.bought(24), 1);
    }

    /** One alone at a STALL that it wants again: THE SUN is 0 at 59 and at 66. */
    private static ClothMarket late(int minute) {
        ClothMarket x = Due.marketOf("g4 oC15 bC-");
        x.minutes(20);
        x.minutes(20);
        x.minutes(minute - 40);
        x.want(0, 1);
        return x;
    }

    private static void whenWhere() {
        due.by("25: where (the STALL) by asked()");
        ClothMarket x = Due.marketOf("g4 oA02 oC25 oC15 oC16 oT11 bD1 dF2 dH0");
        due.tells("when(0)", x, x.when(0), 1, 2);
        ClothMarket six = Due.marketOf("g4 oA01 oA02 oA03 oA04 oA05 oA16 bA1 bB0");
        due.tells("the last of six", six, six.when(0), 2, 5);
        ClothMarket first = Due.marketOf("g4 oT10 oB05 oB06 dB0 dD-");
        due.tells("the first of two alike", first, first.when(0), 1, 1);
        ClothMarket one = Due.marketOf("g4 oD05 oT15 bD0");
        due.tells("STALL 0", one, one.when(0), 3, 0);
    }

    private static void whenNot() {
        due.by("25: NONE: not");
        ClothMarket x = Due.marketOf("g4 oC15 bC1 dF- tH1");
        x.at(0, 0);
        due.tells("when(0)", x, x.when(0), 1, 0);
        x.buyer(1, 1);
        due.tells("who wants nothing: asked() stays", x, x.when(1), Due.NONE, 5);
        due.tells("who never comes there: asked() stays", x, x.when(2), Due.NONE, 5);
        due.is("NONE is no FINDING", x.findings(1) + x.findings(2) + x.findings(3) + x.findings(4) + x.findings(5), 1);
        ClothMarket y = Due.marketOf("g4 oC05 bC1");
        due.is("no such STALL", y.when(0), Due.NONE);
        due.is("no STALL", Due.marketOf("g4 bC1").when(0), Due.NONE);
        due.is("a CHILD at the sweets that it does not want", Due.marketOf("g4 oC35 cC1").when(0), Due.NONE);
    }

    private static void whenRefused() {
        due.by("25: BAD");
        ClothMarket x = Due.marketOf(ONE);
        for (int i : new int[] {-1, 1, 6, MIN, MAX}) {
            due.refuses("when(" + i + ")", x, () -> x.when(i), Due.BAD);
        }
        ClothMarket nobody = Due.marketOf("g1 oA00");
        due.refuses("when(0) of nobody", nobody, () -> nobody.when(0), Due.BAD);
    }

    private static void bought() {
        due.by("26: How many BUY in n (0 .. 60) MINUTES; what they pay together by asked()");
        String text = "g4 oC15 oH29 oA03 bC1 dF0 tH2";
        for (int n = 0; n <= 60; n++) {
            ClothMarket x = Due.marketOf(text);
            due.tells("bought(" + n + ")", x, x.bought(n), n < 1 ? 0 : n < 3 ? 1 : 2, n < 1 ? 0 : n < 3 ? 5 : 14);
        }
        ClothMarket late = Due.marketOf(text);
        late.minutes(20);
        late.minutes(20);
        late.minutes(20);
        late.want(0, 1);
        late.price(0, 99);
        due.tells("bought(60) at 60: what was paid ahead does not count", late, late.bought(60), 1, 99);
        due.tells("bought(0) at 60", late, late.bought(0), 0, 0);
    }

    private static void boughtOfNobody() {
        due.by("26: How many BUY: without BUYERS none");
        ClothMarket nobody = Due.marketOf("g1 oA00");
        Due.see(nobody, 0, 8);
        nobody.at(0, 0);
        due.tells("bought(60)", nobody, nobody.bought(60), 0, 0);
        due.is("bought(60) of a new object", new ClothMarket().bought(60), 0);
    }

    private static void boughtRefused() {
        due.by("26: BAD");
        ClothMarket x = Due.marketOf(ONE);
        for (int n : new int[] {-1, 61, MIN, MAX}) {
            due.refuses("bought(" + n + ")", x, () -> x.bought(n), Due.BAD);
        }
        ClothMarket fresh = new ClothMarket();
        due.refuses("bought(61) of a new object", fresh, () -> fresh.bought(61), Due.BAD);
    }

    private static void rest() {
        due.by("27: Behind how many MINUTES all SPOTS and wants come to be as they were 7 MINUTES ahead of that (7 at least)");
        ClothMarket still = Due.marketOf("g4 bD1 dE0 tF-");
        due.tells("who stand still: 7 at least", still, still.rest(), 7, 2);
        ClothMarket once = Due.marketOf("g4 oA00 bB0 dE-");
        due.tells("one STEP in MINUTE 1, a sale at once by -2", once, once.rest(), 8, 0);
        ClothMarket step = Due.marketOf("g4 oA00 bB0");
        due.tells("one STEP in 1, a sale in 3", step, step.rest(), 10, 0);
        ClothMarket far = Due.marketOf("g4 oA00 tB- bT0");
        due.tells("17 STEPS", far, far.rest(), 24, 1);
        ClothMarket sweets = Due.marketOf("g4 oA30 cT-");
        due.tells("19 STEPS, no sale", sweets, sweets.rest(), 26, 0);
        due.is("the longest", Due.marketOf(LONG).rest(), 36);
        ClothMarket both = Due.marketOf("g4 oA35 dA3 cC-");
        due.tells("all SPOTS and wants: one STEP in 1, a sale in 2", both, both.rest(), 9, 0);
        due.by("27: how many BUYERS want something then by asked()");
        ClothMarket six = Due.marketOf("g4 dA0 dB1 dC2 tD3 dE0 tF1");
        due.tells("six", six, six.rest(), 7, 6);
        ClothMarket none = Due.marketOf("g4 dA- dB-");
        due.tells("none", none, none.rest(), 7, 0);
    }

    private static void restForTheFirstTime() {
        due.by("27: for the first time");
        String[] texts = {"g2 oH15 oD26 oB07 oS39 rB1 bD2 dE1 cF0 tH1 pJ3", "g4 oC15 bD1", LONG, "g4 oA00 tD- bT0", "g1 bA-"};
        for (String text : texts) {
            ClothMarket x = Due.marketOf(text);
            int rest = x.rest();
            int wanting = x.asked();
            java.util.List<String> past = new java.util.ArrayList<>();
            int first = 0;
            for (int m = 0; m <= 60 && first == 0; m++) {
                past.add(looks(Due.behind(text, m)));
                first = m >= 7 && past.get(m).equals(past.get(m - 7)) ? m : 0;
            }
            due.is("rest() of " + text, rest, first);
            due.is("want something then", wanting, Due.behind(text, first).count(8));
        }
    }

    private static String looks(ClothMarket x) {
        StringBuilder s = new StringBuilder();
        for (int i = 0; i < x.count(0); i++) {
            x.buyer(i, 1);
            s.append(x.asked()).append(' ');
            x.buyer(i, 2);
            s.append(x.asked()).append(' ');
        }
        return s.toString();
    }

    private static void restRefused() {
        due.by("27: STATE: no BUYERS");
        ClothMarket nobody = Due.marketOf("g1 oA00");
        due.refuses("rest() of nobody", nobody, nobody::rest, Due.STATE);
        ClothMarket fresh = new ClothMarket();
        due.refuses("rest() of a new object", fresh, fresh::rest, Due.STATE);
        due.is("one alone", Due.marketOf("g1 bA-").rest(), 7);
    }

    private static void track() {
        due.by("28: SPOTS behind n (0 .. 60) MINUTES come to a ROW (anew): what THE SUN is then, told by asked(): 1");
        for (int n = 0; n <= 60; n++) {
            ClothMarket x = Due.marketOf("g4 oA05 bJ0 tT-");
            x.row(n % 6, n % 41);
            due.tells("track(" + n + ")", x, x.track(n, n % 6), 1, n % 7 - 3);
            due.rowIs("track(" + n + ")", x, n % 6, Math.max(0, 9 - n), 19);
            due.is("ROWS", x.count(6), 1);
        }
        ClothMarket late = Due.marketOf("g1 rB- bC- dD- cE- tG- pS-");
        late.minutes(20);
        late.minutes(20);
        late.minutes(20);
        due.tells("track(60, 5) at 60", late, late.track(60, 5), 1, 120 % 7 - 3);
        due.rowIs("of six", late, 5, 1, 2, 3, 4, 6, 18);
        due.is("the MINUTE", late.count(2), 60);
    }

    private static void trackOfNobody() {
        due.by("28: SPOTS come to a ROW: without BUYERS none");
        ClothMarket nobody = Due.marketOf("g1 oA00");
        nobody.row(0, 3);
        due.tells("track(3, 0)", nobody, nobody.track(3, 0), 1, 0);
        due.rowIs("track(3, 0)", nobody, 0);
        due.tells("track(60, 1)", nobody, nobody.track(60, 1), 1, 1);
        due.rowIs("track(60, 1)", nobody, 1);
    }

    private static void trackRefused() {
        due.by("28: BAD");
        ClothMarket x = Due.marketOf(ONE);
        Due.see(x, 0, 7);
        for (int n : new int[] {-1, 61, MIN, MAX}) {
            due.refuses("track(" + n + ", 0)", x, () -> x.track(n, 0), Due.BAD);
        }
        for (int r : new int[] {-1, 6, MIN, MAX}) {
            due.refuses("track(1, " + r + ")", x, () -> x.track(1, r), Due.BAD);
        }
        due.rowIs("the ROW stays", x, 0, 7);
    }

    private static void winds() {
        due.by("36: n (1 .. 60) MINUTES aside, in each a number modulo 3, less 1, moves THE SHADE besides: how many BUY; what they pay by asked()");
        // By seed 1 the numbers are 48271, 182605794, 1291394886, 1914720637, 2078669041, 407355683: modulo 3 they are
        // 1, 0, 0, 1, 1, 2, so THE SHADE is moved by -2, -2, -1, 1, 2, 4 in the first MINUTES.
        int[] moved = {-2, -2, -1, 1, 2, 4};
        for (int far = 0; far <= 4; far++) {
            String two = far == 0 ? "" : " t" + (char) ('I' + far) + "-";
            String ahead = far == 0 ? "" : " t" + (char) ('I' - far) + "-";
            int first = 0, last = 0;
            for (int n = 1; n <= 6; n++) {
                int by = moved[n - 1];
                first = by >= -far && by <= 0 ? 1 : first;
                last = by >= 0 && by <= far ? 1 : last;
                ClothMarket x = Due.marketOf("g4 oI16 tI1" + two);
                due.tells("BUYER 0, the last one " + far + " off, by " + n, x, x.winds(n, 1), first, first * 6);
                ClothMarket y = Due.marketOf("g4 oI16" + ahead + " tI1");
                due.tells("the last one, BUYER 0 " + far + " off, by " + n, y, y.winds(n, 1), last, last * 6);
            }
        }
        ClothMarket x = Due.marketOf("g4 oC07 tC0");
        due.tells("winds(60, 1)", x, x.winds(60, 1), 1, 7);
        due.tells("winds(6, 1)", x, x.winds(6, 1), 0, 0);
        due.is("the MINUTE", x.count(2), 0);
    }

    private static void windsRefused() {
        due.by("36: BAD; STATE: no BUYERS");
        ClothMarket x = Due.marketOf("g4 oC15 bC1");
        ClothMarket nobody = Due.marketOf("g1 oA00");
        for (int n : new int[] {0, -1, 61, MIN, MAX}) {
            due.refuses("winds(" + n + ", 1)", x, () -> x.winds(n, 1), Due.BAD);
            due.refuses("winds(" + n + ", 1) of nobody", nobody, () -> nobody.winds(n, 1), Due.BAD);
        }
        for (int seed : new int[] {0, -1, MAX, MIN}) {
            due.refuses("winds(1, " + seed + ")", x, () -> x.winds(1, seed), Due.BAD);
            due.refuses("winds(1, " + seed + ") of nobody", nobody, () -> nobody.winds(1, seed), Due.BAD);
        }
        due.refuses("winds(1, 1) of nobody", nobody, () -> nobody.winds(1, 1), Due.STATE);
        due.refuses("winds(60, 2147483646) of nobody", nobody, () -> nobody.winds(60, MAX - 1), Due.STATE);
        due.is("winds(1, 1)", x.winds(1, 1) >= 0 ? 1 : 0, 1);
        due.is("winds(60, 2147483646)", x.winds(60, MAX - 1) >= 0 ? 1 : 0, 1);
    }

    private static void aside() {
        due.by("3 what will be (aside, from as it is)");
        ClothMarket x = Due.marketOf("g2 oH15 oD26 oB07 oS39 rB1 bD2 dE1 cF0 tH1 pJ3");
        for (int m = 0; m <= 60; m += 12) {
            long digest = x.digest();
            for (int i = 0; i < 6; i++) {
                x.when(i);
            }
            x.bought(60);
            x.rest();
            x.winds(60, 5);
            due.is("digest() at " + m, x.digest(), digest);
            int sales = x.bought(12);
            int paid = x.asked() + paid(x);
            if (m < 60) {
                due.is("bought(12) at " + m, x.minutes(12), sales);
                due.is("paid at " + m, paid(x), paid);
            }
        }
        due.is("all are undone", x.undo(0), 60);
    }

    private static int paid(ClothMarket x) {
        int sum = 0;
        for (int i = 0; i < x.count(0); i++) {
            x.buyer(i, 3);
            sum += x.asked();
        }
        return sum;
    }
}
