/** What the tests share: counts the answers that are not due, and writes TEXTS from Strings. */
final class Due {
    static final int BAD = -1, FULL = -2, FINDING = -3, STATE = -4, SPENT = -6, NONE = -9;
    static final int NOTHING = 1, BEYOND = 2, UNLIKE = 3, NOUGHT = 4, SIZE = 5;

    private int wrong;
    private int looked;

    void is(String call, long got, long want) {
        looked++;
        if (got != want) {
            wrong++;
            System.out.println(call + " answered " + got + ", due is " + want);
        }
    }

    /** The answer, and what asked() tells behind it. */
    void tells(String call, ClothMarket x, int got, int want, int asked) {
        is(call, got, want);
        is(call + ", asked()", x.asked(), asked);
    }

    /** Refused by a FINDING: it is the latest one then, counted once more, and nothing else has changed. */
    void finds(String call, ClothMarket x, java.util.function.IntSupplier made, int finding) {
        int[] before = new int[6];
        for (int f = 1; f <= 5; f++) {
            before[f] = x.findings(f);
        }
        long digest = x.digest();
        int asked = x.asked();
        is(call, made.getAsInt(), FINDING);
        is(call + ", finding()", x.finding(), finding);
        for (int f = 1; f <= 5; f++) {
            is(call + ", findings(" + f + ")", x.findings(f), before[f] + (f == finding ? 1 : 0));
        }
        is(call + ", digest()", x.digest(), digest);
        is(call + ", asked()", x.asked(), asked);
    }

    /** Refused without a FINDING: nothing has changed. */
    void refuses(String call, ClothMarket x, java.util.function.IntSupplier made, int answer) {
        long digest = x.digest();
        int asked = x.asked();
        int finding = x.finding();
        int findings = 0;
        for (int f = 1; f <= 5; f++) {
            findings += x.findings(f);
        }
        is(call, made.getAsInt(), answer);
        is(call + ", digest()", x.digest(), digest);
        is(call + ", asked()", x.asked(), asked);
        is(call + ", finding()", x.finding(), finding);
        for (int f = 1; f <= 5; f++) {
            findings -= x.findings(f);
        }
        is(call + ", findings", findings, 0);
    }

    static ClothMarket write(ClothMarket x, int t, String text) {
        x.text(t, text.length());
        for (int i = 0; i < text.length(); i++) {
            x.put(t, i, text.charAt(i));
        }
        return x;
    }

    static ClothMarket marketOf(String text) {
        ClothMarket x = write(new ClothMarket(), 0, text);
        if (x.market(0) < 0) {
            throw new IllegalArgumentException("no market: " + text);
        }
        return x;
    }

    static int askedAfter(ClothMarket x, int answer) {
        return answer == 1 ? x.asked() : answer;
    }

    void end(String name) {
        System.out.println(name + ": " + looked + " answers, " + wrong + " not as due");
        if (wrong != 0 || looked == 0) {
            System.exit(1);
        }
    }
}
