import java.lang.reflect.InvocationTargetException;
import java.lang.reflect.Method;
import java.util.ArrayList;
import java.util.List;
import java.util.Random;
import java.util.TreeMap;

/** Runs of calls by a fixed seed, on the class and on PlainModel: every answer must be the same. */
public final class ModelTest {
    private static final String LETTERS = "brdctp";
    /** No step makes more than 90 calls, and an object is promised for 512. */
    private static final int CALLS = 512 - 90;

    private final Random dice;
    private final ClothMarket x = new ClothMarket();
    private final PlainModel model = new PlainModel();
    private final List<String> told = new ArrayList<>();
    private static final TreeMap<String, Method> FACE = new TreeMap<>();
    private static final TreeMap<String, int[]> SEEN = new TreeMap<>();

    private ModelTest(long seed) {
        dice = new Random(seed);
    }

    public static void main(String[] args) {
        int runs = args.length > 0 ? Integer.parseInt(args[0]) : 800;
        for (Method m : ClothMarket.class.getMethods()) {
            if (m.getDeclaringClass() == ClothMarket.class) {
                FACE.put(m.getName(), m);
            }
        }
        for (int seed = 1; seed <= runs; seed++) {
            ModelTest run = new ModelTest(seed);
            if (!run.holds()) {
                System.out.println("seed " + seed + ":");
                for (String line : run.told) {
                    System.out.println("  " + line);
                }
                System.exit(1);
            }
        }
        if (args.length > 1) {
            for (String name : SEEN.keySet()) {
                int[] s = SEEN.get(name);
                System.out.println(name + ": given " + s[0] + ", refused " + s[1] + ", none " + s[2]);
            }
        }
        for (String name : FACE.keySet()) {
            if (!SEEN.containsKey(name)) {
                System.out.println("never called: " + name);
                System.exit(1);
            }
        }
        System.out.println("ModelTest: " + runs + " runs of " + CALLS + " calls and more, all alike");
    }

    private boolean holds() {
        write(0, below(6) == 0 ? randomText() : marketText());
        boolean alike = does("market", 0);
        for (int c = 0; told.size() < CALLS && alike; c++) {
            alike = anyCall() && does("asked");
            if (c % 8 == 0) {
                alike = alike && does("digest") && does("finding");
            }
        }
        return alike;
    }

    private boolean does(String name, int... given) {
        Object[] boxed = new Object[given.length];
        StringBuilder line = new StringBuilder(name).append('(');
        for (int i = 0; i < given.length; i++) {
            boxed[i] = given[i];
            line.append(i == 0 ? "" : ", ").append(given[i]);
        }
        long got;
        try {
            got = ((Number) FACE.get(name).invoke(x, boxed)).longValue();
        } catch (IllegalAccessException | InvocationTargetException e) {
            told.add(line + ") threw " + e.getCause());
            return false;
        }
        long due = model.call(name, given);
        int[] seen = SEEN.computeIfAbsent(name, n -> new int[3]);
        seen[due >= 0 || name.equals("digest") ? 0 : due == -9 ? 2 : 1]++;
        told.add(line + ") answered " + got + (got == due ? "" : ", due is " + due));
        return got == due;
    }

    private void write(int t, String text) {
        does("text", t, text.length());
        for (int i = 0; i < text.length(); i++) {
            does("put", t, i, text.charAt(i));
        }
    }

    private int below(int n) {
        return dice.nextInt(n);
    }

    /** Mostly of from .. to, at times beyond it. */
    private int near(int from, int to) {
        switch (below(24)) {
            case 0: return from - 1;
            case 1: return to + 1;
            case 2: return below(3) == 0 ? dice.nextInt() : to;
            default: return from + below(to - from + 1);
        }
    }

    private int aBuyer() {
        return near(0, Math.max(0, model.now.buyers.size() - 1));
    }

    private int aStall() {
        return near(0, Math.max(0, model.now.stalls.size() - 1));
    }

    private String blanks() {
        return below(8) == 0 ? "  " : below(4) == 0 ? "" : " ";
    }

    private String marketText() {
        StringBuilder s = new StringBuilder(blanks());
        int reach = 1 + below(4);
        s.append('g').append(reach);
        int stalls = below(3) == 0 ? below(7) : 3 + below(4), goods = 1 + below(4);
        for (int k = 0; k < stalls; k++) {
            int good = below(3) == 0 ? below(4) : below(goods);
            s.append(blanks()).append('o').append((char) ('A' + below(20))).append(good).append(below(10));
        }
        int buyers = below(12) == 0 ? 0 : 1 + below(6), at = below(6);
        String kinds = below(2) == 0 ? LETTERS : "brp" + LETTERS.charAt(below(6));
        for (int i = 0; i < buyers && at < 20; i++) {
            char kind = kinds.charAt(below(kinds.length()));
            s.append(blanks()).append(kind).append((char) ('A' + at));
            s.append(below(6) == 0 ? "-" : "" + (below(3) == 0 ? below(4) : below(goods)));
            at += 1 + below(reach);
        }
        s.append(blanks());
        return s.length() > 80 ? s.substring(0, 80) : s.toString();
    }

    /** A MARKET that something is wrong with, perhaps. */
    private String randomText() {
        StringBuilder s = new StringBuilder(marketText());
        int changes = below(3);
        for (int c = 0; c < changes && s.length() > 0; c++) {
            int p = below(s.length());
            switch (below(4)) {
                case 0:
                    s.setLength(p);
                    break;
                case 1:
                    s.deleteCharAt(p);
                    break;
                case 2:
                    s.insert(p, "gobrdctp AT0349-UaJ".charAt(below(19)));
                    break;
                default:
                    s.setCharAt(p, (char) below(300));
                    break;
            }
        }
        return s.length() > 80 ? s.substring(0, 80) : s.toString();
    }

    private boolean anyCall() {
        switch (below(12)) {
            case 0: return rowCall();
            case 1: return textCall();
            case 2:
            case 3: return marketCall();
            case 4:
            case 5:
            case 6: return minuteCall();
            case 7:
            case 8: return asideCall();
            case 9: return bestCall();
            case 10: return trackCall();
            default: return toldCall();
        }
    }

    private boolean rowCall() {
        int r = near(0, 5), buyers = model.now.buyers.size();
        switch (below(6)) {
            case 0: return does("row", r, below(2) == 0 ? buyers : near(0, 40));
            case 1: return does("lay", r, near(0, 6), below(3) == 0 ? dice.nextInt() : near(-9, 19));
            case 2: return does("at", r, near(0, 6));
            case 3: return below(3) != 0 || does("tear", r);
            case 4: return does("copy", r, near(0, 6), below(2) == 0 ? r : near(0, 5), near(0, 6), near(0, 6));
            default: return does("mean", r);
        }
    }

    private boolean textCall() {
        int t = near(0, 3);
        switch (below(8)) {
            case 0:
            case 1: return does("text", t, below(3) == 0 ? near(0, 80) : near(0, 4));
            case 2: return does("put", t, near(0, 20), below(2) == 0 ? dice.nextInt() : near(32, 116));
            case 3: return does("fault", t);
            case 4:
                write(below(4), randomText());
                return does("fault", below(4));
            case 5:
                write(3, marketText());
                return does("fault", 3) && does("market", 3);
            default: return below(4) != 0 || does("market", t);
        }
    }

    private boolean marketCall() {
        int i = aBuyer(), k = aStall();
        switch (below(7)) {
            case 0: return does("buyer", i, near(0, 3));
            case 1: return does("stall", k, near(0, 3));
            case 2:
            case 3: return does("mark", i, near(1, 5));
            case 4: return does("want", i, near(0, 4));
            case 5: return does("price", k, below(2) == 0 ? near(0, 9) : near(0, 99));
            default: return does("wish", i);
        }
    }

    private boolean minuteCall() {
        int minute = model.now.minute;
        switch (below(9)) {
            case 0:
            case 1:
            case 2: return does("minutes", below(3) == 0 ? near(0, 20) : near(0, 3));
            case 3: return does("undo", below(2) == 0 ? near(0, minute) : Math.max(0, minute - below(3)));
            case 4: return does("turn", near(0, 1));
            case 5: return does("shade");
            case 6: return does("shaded");
            case 7: return does("keep", near(0, 2));
            default: return does("on", near(0, 2));
        }
    }

    private boolean asideCall() {
        switch (below(5)) {
            case 0: return does("when", aBuyer());
            case 1: return does("bought", near(0, 60));
            case 2: return does("rest");
            case 3: return does("track", near(0, 60), near(0, 5));
            default: return does("winds", near(1, 60), below(3) == 0 ? near(1, 2147483646) : 1 + below(1000));
        }
    }

    private boolean bestCall() {
        switch (below(8)) {
            case 0: return does("best", near(0, 20), near(0, 5));
            case 1:
            case 2: return does("spot", aStall(), near(0, 20));
            case 3:
            case 4: return does("missed", near(0, 20));
            case 5:
            case 6: return does("fewest");
            default: return does("turns");
        }
    }

    private boolean trackCall() {
        int n = near(0, below(3) == 0 ? 20 : 6), r = near(0, 5);
        if (below(3) != 0 && !does("track", Math.max(0, Math.min(n, 60)), Math.abs(r % 6))) {
            return false;
        }
        if (below(3) == 0 && !does("lay", r, near(0, 5), below(2) == 0 ? -9 : near(0, 19))) {
            return false;
        }
        int all = (1 << model.now.buyers.size()) - 1;
        int set = below(6) == 0 ? near(0, 63) : below(40) == 0 ? all : below(64) & below(64) & all;
        return below(2) == 0 ? does("fits", set, n, r)
            : does("could", set, n, r, below(2) == 0 ? aBuyer() : Integer.numberOfTrailingZeros(set));
    }

    private boolean toldCall() {
        switch (below(6)) {
            case 0: return does("upper");
            case 1: return does("lower");
            case 2:
            case 3: return does("count", near(0, 8));
            case 4: return does("findings", near(1, 5));
            default: return does("finding");
        }
    }
}
