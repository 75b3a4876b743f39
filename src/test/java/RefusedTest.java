import java.util.ArrayList;
import java.util.List;
import java.util.function.ToIntFunction;

/**
 * "What is refused changes nothing but finding(), findings()": of two objects with the same past one makes a refused
 * call, and then both are held against each other by all that they tell, and by how they go on.
 */
public final class RefusedTest {
    private static final Due due = new Due();
    private static final int MIN = Integer.MIN_VALUE, MAX = Integer.MAX_VALUE;

    private record Refusal(String name, int answer, int finding, ToIntFunction<ClothMarket> call) { }

    private static final List<Refusal> OF_ALL = new ArrayList<>();
    private static final List<Refusal> OF_NOBODY = new ArrayList<>();

    private static void bad(String name, ToIntFunction<ClothMarket> call) {
        OF_ALL.add(new Refusal(name, Due.BAD, 0, call));
        OF_NOBODY.add(new Refusal(name + " of nobody", Due.BAD, 0, call));
    }

    private static void busy(String name, int answer, ToIntFunction<ClothMarket> call) {
        OF_ALL.add(new Refusal(name, answer, 0, call));
    }

    private static void found(String name, int finding, ToIntFunction<ClothMarket> call) {
        OF_ALL.add(new Refusal(name, Due.FINDING, finding, call));
    }

    private static void foundAlways(String name, int finding, ToIntFunction<ClothMarket> call) {
        found(name, finding, call);
        OF_NOBODY.add(new Refusal(name + " of nobody", Due.FINDING, finding, call));
    }

    private static void nobody(String name, ToIntFunction<ClothMarket> call) {
        OF_NOBODY.add(new Refusal(name + " of nobody", Due.STATE, 0, call));
    }

    public static void main(String[] args) {
        badNumbers();
        badCounts();
        badSets();
        findings();
        states();
        due.by("What is refused changes nothing but finding(), findings()");
        for (Refusal r : OF_ALL) {
            changesNothing(r, busyMarket(), busyMarket(), true);
        }
        for (Refusal r : OF_NOBODY) {
            changesNothing(r, emptyMarket(), emptyMarket(), false);
        }
        due.is("refusals of all", OF_ALL.size() > 120 ? 1 : 0, 1);
        due.is("refusals of nobody", OF_NOBODY.size() > 100 ? 1 : 0, 1);
        allAtOnce();
        due.end("RefusedTest");
    }

    private static void badNumbers() {
        for (int v : new int[] {-1, 6, MIN, MAX}) {
            bad("row", x -> x.row(v, 1));
            bad("lay", x -> x.lay(v, 0, 9));
            bad("at", x -> x.at(v, 0));
            bad("tear", x -> x.tear(v));
            bad("copy from", x -> x.copy(v, 0, 1, 0, 1));
            bad("copy to", x -> x.copy(0, 0, v, 0, 1));
            bad("mean", x -> x.mean(v));
            bad("track to", x -> x.track(1, v));
            bad("best to", x -> x.best(1, v));
            bad("fits from", x -> x.fits(0, 1, v));
            bad("could from", x -> x.could(1, 1, v, 0));
            bad("buyer", x -> x.buyer(v, 0));
            bad("stall", x -> x.stall(v, 0));
            bad("mark", x -> x.mark(v, 1));
            bad("want", x -> x.want(v, 0));
            bad("price", x -> x.price(v, 0));
            bad("wish", x -> x.wish(v));
            bad("when", x -> x.when(v));
            bad("spot", x -> x.spot(v, 1));
            bad("could", x -> x.could(1, 1, 0, v));
            bad("findings", x -> x.findings(v));
            bad("mark of a KIND", x -> x.mark(0, v));
        }
        for (int v : new int[] {-1, 4, MIN, MAX}) {
            bad("text", x -> x.text(v, 1));
            bad("put", x -> x.put(v, 0, 65));
            bad("fault", x -> x.fault(v));
            bad("market", x -> x.market(v));
            bad("buyer, what", x -> x.buyer(0, v));
            bad("stall, what", x -> x.stall(0, v));
        }
        for (int v : new int[] {-1, 3, MIN, MAX}) {
            bad("keep", x -> x.keep(v));
            bad("on", x -> x.on(v));
        }
        bad("findings", x -> x.findings(0));
        bad("mark of KIND 0", x -> x.mark(0, 0));
    }

    private static void badCounts() {
        bad("row of 41", x -> x.row(0, 41));
        bad("text of 81", x -> x.text(0, 81));
        for (int v : new int[] {-1, 21, MIN, MAX}) {
            bad("minutes", x -> x.minutes(v));
            bad("best", x -> x.best(v, 0));
            bad("spot", x -> x.spot(0, v));
            bad("missed", x -> x.missed(v));
            bad("fits", x -> x.fits(0, v, 0));
            bad("could", x -> x.could(1, v, 0, 0));
        }
        for (int v : new int[] {-1, 61, MIN, MAX}) {
            bad("bought", x -> x.bought(v));
            bad("track", x -> x.track(v, 0));
            bad("winds", x -> x.winds(v, 1));
            bad("undo", x -> x.undo(v));
        }
        for (int v : new int[] {-1, 0, MIN, MAX}) {
            bad("winds by a seed", x -> x.winds(1, v));
        }
        bad("winds(0)", x -> x.winds(0, 1));
        for (int v : new int[] {-1, 2, MIN, MAX}) {
            bad("turn", x -> x.turn(v));
        }
        for (int v : new int[] {-1, 9, MIN, MAX}) {
            bad("count", x -> x.count(v));
        }
        for (int v : new int[] {-1, 5, MIN, MAX}) {
            bad("want of a GOOD", x -> x.want(0, v));
        }
        for (int v : new int[] {-1, 100, MIN, MAX}) {
            bad("price of", x -> x.price(0, v));
        }
        busy("undo ahead of on()", Due.BAD, x -> x.undo(1));
        busy("undo of what is not yet", Due.BAD, x -> x.undo(46));
    }

    private static void badSets() {
        for (int v : new int[] {-1, 64, MIN, MAX}) {
            bad("fits", x -> x.fits(v, 1, 0));
            bad("could", x -> x.could(v, 1, 0, 0));
        }
        busy("fits of six", Due.SPENT, x -> x.fits(63, 1, 0));
        busy("could of six", Due.SPENT, x -> x.could(63, 1, 0, 0));
        busy("could of one not of the set", Due.BAD, x -> x.could(62, 1, 0, 0));
    }

    private static void findings() {
        foundAlways("row of fewer than none", Due.SIZE, x -> x.row(0, -1));
        foundAlways("row of MIN", Due.SIZE, x -> x.row(2, MIN));
        foundAlways("text of fewer than none", Due.SIZE, x -> x.text(0, -1));
        foundAlways("copy of fewer than none", Due.SIZE, x -> x.copy(0, 0, 1, 0, -1));
        foundAlways("lay at nothing", Due.NOTHING, x -> x.lay(2, 0, 1));
        foundAlways("at nothing", Due.NOTHING, x -> x.at(2, 0));
        foundAlways("tear nothing", Due.NOTHING, x -> x.tear(2));
        foundAlways("copy from nothing", Due.NOTHING, x -> x.copy(2, 0, 1, 0, 1));
        foundAlways("copy to nothing", Due.NOTHING, x -> x.copy(0, 0, 2, 0, 1));
        foundAlways("mean of nothing", Due.NOTHING, x -> x.mean(2));
        foundAlways("mean of none", Due.NOUGHT, x -> x.mean(3));
        foundAlways("put to nothing", Due.NOTHING, x -> x.put(2, 0, 65));
        foundAlways("fault of nothing", Due.NOTHING, x -> x.fault(2));
        foundAlways("market of nothing", Due.NOTHING, x -> x.market(2));
        foundAlways("on() of nothing", Due.NOTHING, x -> x.on(2));
        for (int i : new int[] {-1, 6, 40, MIN, MAX}) {
            foundAlways("lay beyond", Due.BEYOND, x -> x.lay(0, i, 1));
            foundAlways("at beyond", Due.BEYOND, x -> x.at(0, i));
            foundAlways("copy from beyond", Due.BEYOND, x -> x.copy(0, i, 1, 0, 1));
            foundAlways("copy to beyond", Due.BEYOND, x -> x.copy(1, 0, 0, i, 1));
        }
        for (int i : new int[] {-1, 80, MIN, MAX}) {
            foundAlways("put beyond", Due.BEYOND, x -> x.put(0, i, 65));
        }
        found("mark of another KIND", Due.UNLIKE, x -> x.mark(0, 1));
        found("fits from nothing", Due.NOTHING, x -> x.fits(1, 1, 2));
        found("fits from too few", Due.SIZE, x -> x.fits(1, 1, 3));
        found("fits from no SPOT", Due.UNLIKE, x -> x.fits(1, 1, 4));
        found("could from nothing", Due.NOTHING, x -> x.could(1, 1, 2, 0));
        found("could from too few", Due.SIZE, x -> x.could(1, 1, 3, 0));
        found("could from no SPOT", Due.UNLIKE, x -> x.could(1, 1, 4, 0));
    }

    private static void states() {
        busy("minutes, full", Due.FULL, x -> x.minutes(16));
        busy("minutes, full", Due.FULL, x -> x.minutes(20));
        busy("market of a FAULT", Due.STATE, x -> x.market(1));
        busy("market of blanks", Due.STATE, x -> x.market(3));
        nobody("market of a FAULT", x -> x.market(1));
        nobody("minutes(0)", x -> x.minutes(0));
        nobody("minutes(20)", x -> x.minutes(20));
        nobody("turn(0)", x -> x.turn(0));
        nobody("turn(1)", x -> x.turn(1));
        nobody("shade()", ClothMarket::shade);
        nobody("keep(0)", x -> x.keep(0));
        nobody("keep(2)", x -> x.keep(2));
        nobody("rest()", ClothMarket::rest);
        nobody("best", x -> x.best(0, 0));
        nobody("spot", x -> x.spot(0, 0));
        nobody("missed", x -> x.missed(0));
        nobody("fewest()", ClothMarket::fewest);
        nobody("turns()", ClothMarket::turns);
        nobody("fits", x -> x.fits(0, 0, 0));
        nobody("fits from nothing", x -> x.fits(0, 0, 2));
        nobody("winds", x -> x.winds(1, 1));
    }

    /** MINUTE 45, 43 MINUTES since on(1); two MARKETS kept; a FAULT in TEXT 1; asked() tells 20. */
    private static ClothMarket busyMarket() {
        ClothMarket x = write(" ".repeat(36) + "g2oC15oF20oB07oS39bB1rD0dE2cG3tH1pK1");
        x.minutes(2);
        x.keep(1);
        x.minutes(1);
        x.keep(0);
        x.on(1);
        x.price(0, 42);
        x.minutes(20);
        x.want(0, 1);
        x.minutes(20);
        x.want(2, 3);
        x.minutes(3);
        x.track(2, 0);
        fill(x);
        return x;
    }

    private static ClothMarket emptyMarket() {
        ClothMarket x = write(" ".repeat(80 - 10) + "g2oC15oF20");
        Due.see(x, 0, 1, 2, 3, 4, 5, 6);
        fill(x);
        return x;
    }

    private static ClothMarket write(String text) {
        ClothMarket x = Due.marketOf(text);
        x.text(3, 4);
        Due.write(x, 1, "g2oC15oF");
        return x;
    }

    private static void fill(ClothMarket x) {
        Due.see(x, 1, 7, -7, 70);
        x.row(3, 0);
        Due.see(x, 4, 1, 2, 3, 4, 5, 20);
        x.at(4, 5);
    }

    private static void same(String name, ClothMarket x, ClothMarket twin) {
        due.is(name + ", asked()", x.asked(), twin.asked());
        due.is(name + ", digest()", x.digest(), twin.digest());
        due.is(name + ", upper()", x.upper(), twin.upper());
        due.is(name + ", lower()", x.lower(), twin.lower());
        due.is(name + ", fault(0)", x.fault(0), twin.fault(0));
        due.is(name + ", fault(1)", x.fault(1), twin.fault(1));
    }

    private static void changesNothing(Refusal r, ClothMarket x, ClothMarket twin, boolean busy) {
        due.is(r.name, r.call.applyAsInt(x), r.answer);
        due.is(r.name + ", finding()", x.finding(), r.finding == 0 ? twin.finding() : r.finding);
        for (int f = 1; f <= 5; f++) {
            due.is(r.name + ", findings(" + f + ")", x.findings(f), twin.findings(f) + (f == r.finding ? 1 : 0));
        }
        same(r.name, x, twin);
        if (busy) {
            goOn(r.name, x, twin);
        } else {
            due.is(r.name + ", market(0)", x.market(0), twin.market(0));
            same(r.name + ", behind market(0)", x, twin);
        }
    }

    private static void goOn(String name, ClothMarket x, ClothMarket twin) {
        due.is(name + ", bought(60)", x.bought(60), twin.bought(60));
        due.is(name + ", minutes(15)", x.minutes(15), twin.minutes(15));
        same(name + ", behind minutes(15)", x, twin);
        for (int minute = 44; minute >= 2; minute -= 14) {
            due.is(name + ", undo(" + minute + ")", x.undo(minute), twin.undo(minute));
            same(name + ", behind undo(" + minute + ")", x, twin);
        }
        for (int k = 0; k <= 1; k++) {
            due.is(name + ", on(" + k + ")", x.on(k), twin.on(k));
            same(name + ", behind on(" + k + ")", x, twin);
            due.is(name + ", minutes(5)", x.minutes(5), twin.minutes(5));
        }
        due.is(name + ", market(0)", x.market(0), 6);
        same(name + ", behind market(0)", x, twin.market(0) == 6 ? twin : x);
    }

    /** All of them one behind the other, on objects that serve for as many calls as are promised. */
    private static void allAtOnce() {
        due.by("What is refused changes nothing but finding(), findings(): how often it is refused, too");
        ClothMarket x = busyMarket();
        ClothMarket twin = busyMarket();
        int[] often = new int[6];
        for (Refusal r : OF_ALL) {
            due.is(r.name + " again", r.call.applyAsInt(x), r.answer);
            often[r.finding]++;
        }
        for (int f = 1; f <= 5; f++) {
            due.is("findings(" + f + ")", x.findings(f), often[f]);
        }
        same("all at once", x, twin);
        goOn("all at once", x, twin);
    }
}
