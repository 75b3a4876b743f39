/** What the tests share: counts the answers that are not due, and writes TEXTS from Strings. */
final class Due {
    static final int BAD = -1, FULL = -2, FINDING = -3, STATE = -4, SPENT = -6, NONE = -9;
    static final int NOTHING = 1, BEYOND = 2, UNLIKE = 3, NOUGHT = 4, SIZE = 5;

    private int wrong;
    private int looked;
    private int sentences;
    private int lookedBefore;
    private String sentence = "";

    void is(String call, long got, long want) {
        looked++;
        if (got != want) {
            wrong++;
            System.out.println(sentence + call + " answered " + got + ", due is " + want);
        }
    }

    /** The sentence of the document by which the answers from here on are due: each one has some of its own. */
    void by(String words) {
        endSentence();
        sentence = "'" + words + "': ";
        sentences++;
        lookedBefore = looked;
    }

    private void endSentence() {
        if (sentences > 0 && looked == lookedBefore) {
            is("number of answers", 0, 1);
        }
    }

    /** The answer, and what asked() tells behind it. */
    void tells(String call, ClothMarket x, int got, int want, int asked) {
        is(call, got, want);
        is(call + ", asked()", x.asked(), asked);
    }

    /** Refused by a FINDING: it is the latest one then, counted once more, and nothing else has changed. */
    void finds(String call, ClothMarket x, java.util.function.IntSupplier made, int finding) {
        int[] before = new int[6];
        for (int f = 1; f <= 5; f++) {
            before[f] = x.findings(f);
        }
        long digest = x.digest();
        int asked = x.asked();
        is(call, made.getAsInt(), FINDING);
        is(call + ", finding()", x.finding(), finding);
        for (int f = 1; f <= 5; f++) {
            is(call + ", findings(" + f + ")", x.findings(f), before[f] + (f == finding ? 1 : 0));
        }
        is(call + ", digest()", x.digest(), digest);
        is(call + ", asked()", x.asked(), asked);
    }

    /** Refused without a FINDING: nothing has changed. */
    void refuses(String call, ClothMarket x, java.util.function.IntSupplier made, int answer) {
        long digest = x.digest();
        int asked = x.asked();
        int finding = x.finding();
        int findings = 0;
        for (int f = 1; f <= 5; f++) {
            findings += x.findings(f);
        }
        is(call, made.getAsInt(), answer);
        is(call + ", digest()", x.digest(), digest);
        is(call + ", asked()", x.asked(), asked);
        is(call + ", finding()", x.finding(), finding);
        for (int f = 1; f <= 5; f++) {
            findings -= x.findings(f);
        }
        is(call + ", findings", findings, 0);
    }

    static ClothMarket write(ClothMarket x, int t, String text) {
        x.text(t, text.length());
        for (int i = 0; i < text.length(); i++) {
            x.put(t, i, text.charAt(i));
        }
        return x;
    }

    static ClothMarket marketOf(String text) {
        ClothMarket x = write(new ClothMarket(), 0, text);
        if (x.market(0) < 0) {
            throw new IllegalArgumentException("no market: " + text);
        }
        return x;
    }

    /** A ROW is there, with these places and no more. */
    void rowIs(String call, ClothMarket x, int r, int... places) {
        for (int i = 0; i < places.length; i++) {
            tells(call + ", place " + i, x, x.at(r, i), 1, places[i]);
        }
        finds(call + ", behind its places", x, () -> x.at(r, places.length), BEYOND);
    }

    /** SPOTS of all BUYERS, as letters. */
    void standAt(String call, ClothMarket x, String letters) {
        is(call + ", how many BUYERS", x.count(0), letters.length());
        for (int i = 0; i < letters.length(); i++) {
            tells(call + ", SPOT of BUYER " + i, x, x.buyer(i, 1), 1, letters.charAt(i) - 'A');
        }
    }

    static void see(ClothMarket x, int r, int... places) {
        x.row(r, places.length);
        for (int i = 0; i < places.length; i++) {
            x.lay(r, i, places[i]);
        }
    }

    static ClothMarket behind(String text, int minutes) {
        ClothMarket x = marketOf(text);
        for (int m = 0; m < minutes; m++) {
            x.minutes(1);
        }
        return x;
    }

    void end(String name) {
        endSentence();
        sentence = "";
        System.out.println(name + ": " + looked + " answers, " + wrong + " not as due"
            + (sentences > 0 ? ", by " + sentences + " sentences" : ""));
        if (wrong != 0 || looked == 0) {
            System.exit(1);
        }
    }
}
