import java.util.ArrayList;
import java.util.List;
import java.util.function.ToIntFunction;

/**
 * "What is refused, or found, changes nothing but status()": of two objects that were used alike one
 * has a refused call more; all that can be seen of both is alike then. So for what only tells, too.
 */
final class RefusedTest {
    private static final int BAD = Due.BAD, STATE = Due.STATE, FULL = Due.FULL;
    private static final int NULL = Due.NULL, PLACE = Due.PLACE, KIND = Due.KIND, SIZE = Due.SIZE, STORE = Due.STORE;
    private static final int MIN = Integer.MIN_VALUE, MAX = Integer.MAX_VALUE;

    public static void main(String[] args) {
        theTwinsSeeWhatIsChanged();
        rows();
        feeds();
        acts();
        foretold();
        images();
        asked();
        withoutLand();
        whatOnlyTells();
        Due.end();
    }

    // Carrier 0 is laden, in town 1; carrier 1 is empty, in town 1; load 1 lies in town 5; crossing 4 is down.
    private static LadenEmpty used() {
        LadenEmpty x = new LadenEmpty();
        Due.tell(x, "crossing ford 6");
        Due.tell(x, "crossing bridge 0 1 2;crossing ford 1 0 3;crossing gate 0 1 4;crossing plank 1 2 5;crossing ferry 0 1 6;"
            + "carrier 0 1;carrier 1 0;load 0 1;load 5 5;");
        Due.row(x, 0, 0, 1, 2, 5);
        Due.row(x, 1, 1, 9, 0);
        Due.row(x, 2, 2, 3, 1, 1, 99);
        x.row(7, 2, 0);
        x.image(0);
        x.take(0, 0);
        x.go(0, 0);
        x.feast();
        x.put(4, 0);
        Due.feedText(x, "crossing for");
        x.ask(0, 0);
        return x;
    }

    private static LadenEmpty usedWithFullTape() {
        LadenEmpty x = used();
        Due.feedText(x, " ".repeat(388));
        return x;
    }

    private static LadenEmpty fresh() {
        return new LadenEmpty();
    }

    private static void seeLand(LadenEmpty x, List<Integer> seen) {
        for (int what = 1; what < 7; what++) {
            seen.add(x.count(what));
        }
        for (int c = 0; c < 3; c++) {
            for (int what = 0; what < 4; what++) {
                seen.add(x.carrier(c, what));
            }
        }
        for (int l = 0; l < 3; l++) {
            for (int what = 0; what < 3; what++) {
                seen.add(x.load(l, what));
            }
        }
        seen.add(x.carrier(0, 3));
    }

    private static void seeRows(LadenEmpty x, List<Integer> seen) {
        for (int r = 0; r < 8; r++) {
            for (int n = 0; n < 5; n++) {
                seen.add(x.walk(r, n, 0));
                seen.add(x.walk(r, n, 1));
            }
            seen.add(x.set(r, 0, 98304));
            seen.add(x.drop(r));
        }
    }

    // All that calls tell, at most some 330 of them: the object is used up by it.
    private static List<Integer> seen(LadenEmpty x) {
        List<Integer> seen = new ArrayList<>(List.of(x.status(), x.fault(), x.count(0), x.count(7)));
        for (int i = 0; i < 17; i++) {
            seen.add(x.trace(i));
        }
        for (int i = 0; i < 6; i++) {
            seen.add(x.kind(i));
        }
        seeRows(x, seen);
        seeLand(x, seen);
        for (int i = 0; i < 5; i++) {
            seen.add(x.undo());
            seeLand(x, seen);
        }
        seen.add(x.restore(0));
        seeLand(x, seen);
        seen.add(x.restore(1));
        Due.feedText(x, "d 0 1 7;");
        seen.add(x.land());
        seen.add(x.fault());
        seeLand(x, seen);
        Due.due("calls that are too many to see all", Math.max(seen.size() + 100, 512), 512);
        return seen;
    }

    interface Made {
        LadenEmpty make();
    }

    private static void changesNothing(String what, Made made, int due, ToIntFunction<LadenEmpty> call) {
        LadenEmpty one = made.make();
        LadenEmpty other = made.make();
        Due.due(what, call.applyAsInt(one), due);
        List<Integer> with = seen(one);
        List<Integer> without = seen(other);
        boolean isFound = due < -1000010 && due > -1000016;
        without.set(0, isFound ? -1000010 - due : without.get(0));
        for (int i = 0; i < with.size(); i++) {
            Due.due(what + ", then place " + i + " of all that is seen", with.get(i), without.get(i));
        }
    }

    private static void leavesAll(String what, int due, ToIntFunction<LadenEmpty> call) {
        changesNothing(what, RefusedTest::used, due, call);
    }

    // That a change is seen: each of these calls, which are not refused, makes the twins unlike.
    private static void theTwinsSeeWhatIsChanged() {
        List<ToIntFunction<LadenEmpty>> calls = List.of(
            x -> x.row(3, 0, 0), x -> x.row(7, 1, 1), x -> x.set(0, 2, 4), x -> x.copy(0, 0, 0, 1, 2), x -> x.drop(7),
            x -> x.feed(' ', 1), LadenEmpty::land, x -> x.go(1, 1), x -> x.take(1, 1) + x.lay(0), x -> x.lay(0),
            x -> x.hand(0, 1), LadenEmpty::feast, x -> x.put(4, 1), x -> x.put(4, 0), LadenEmpty::undo, x -> x.image(0),
            x -> x.image(1), x -> x.restore(0), x -> x.ask(0, 1), x -> x.as(0, 5));
        for (int i = 0; i < calls.size(); i++) {
            LadenEmpty x = used();
            calls.get(i).applyAsInt(x);
            Due.due("a change that is not seen, by call " + i, seen(x).equals(seen(used())) ? 1 : 0, 0);
        }
    }

    private static void rows() {
        leavesAll("row 8", BAD, x -> x.row(8, 0, 1));
        leavesAll("row -1", BAD, x -> x.row(-1, 0, 1));
        leavesAll("lane 3", BAD, x -> x.row(0, 3, 1));
        leavesAll("lane -1", BAD, x -> x.row(0, -1, 1));
        leavesAll("n 41", BAD, x -> x.row(0, 0, 41));
        leavesAll("n -1", SIZE, x -> x.row(0, 2, -1));
        leavesAll("n -1, a row that is missing", SIZE, x -> x.row(3, 2, -1));
        leavesAll("set of row 8", BAD, x -> x.set(8, 0, 7));
        leavesAll("set of row -1", BAD, x -> x.set(-1, 0, 7));
        leavesAll("set of one that is missing", NULL, x -> x.set(3, 0, 7));
        leavesAll("set behind the end", PLACE, x -> x.set(0, 3, 7));
        leavesAll("set ahead of the beginning", PLACE, x -> x.set(0, -1, 7));
        leavesAll("set of one that has none", PLACE, x -> x.set(7, 0, 7));
        leavesAll("copy of row 8", BAD, x -> x.copy(8, 0, 0, 0, 1));
        leavesAll("copy to row -1", BAD, x -> x.copy(0, 0, -1, 0, 1));
        leavesAll("copy of one that is missing", NULL, x -> x.copy(3, 0, 0, 0, 1));
        leavesAll("copy to one that is missing", NULL, x -> x.copy(0, 0, 3, 0, 1));
        leavesAll("copy to another lane", STORE, x -> x.copy(0, 0, 1, 0, 1));
        leavesAll("copy beyond the end of a", PLACE, x -> x.copy(2, 2, 2, 0, 3));
        leavesAll("copy beyond the end of b", PLACE, x -> x.copy(2, 0, 2, 2, 3));
        leavesAll("copy to one that has none", PLACE, x -> x.copy(2, 0, 7, 0, 1));
        leavesAll("copy of fewer than none", PLACE, x -> x.copy(2, 1, 2, 0, -1));
        leavesAll("copy of far too many", PLACE, x -> x.copy(2, 1, 2, 0, MAX));
        leavesAll("drop of row 8", BAD, x -> x.drop(8));
        leavesAll("drop of row -1", BAD, x -> x.drop(-1));
        leavesAll("drop of one that is missing", NULL, x -> x.drop(3));
    }

    private static void feeds() {
        leavesAll("feed of 0", BAD, x -> x.feed(-1L, 0));
        leavesAll("feed of 9", BAD, x -> x.feed(-1L, 9));
        leavesAll("feed of -1", BAD, x -> x.feed(-1L, -1));
        changesNothing("feed of 1 on a full tape", RefusedTest::usedWithFullTape, FULL, x -> x.feed('x', 1));
        changesNothing("feed of 8 on a full tape", RefusedTest::usedWithFullTape, FULL, x -> x.feed(-1L, 8));
        changesNothing("feed of 9 on a full tape", RefusedTest::usedWithFullTape, BAD, x -> x.feed(-1L, 9));
    }

    private static void acts() {
        leavesAll("go of carrier 2", BAD, x -> x.go(2, 1));
        leavesAll("go of carrier -1", BAD, x -> x.go(-1, 1));
        leavesAll("go over crossing 5", BAD, x -> x.go(1, 5));
        leavesAll("go over crossing -1", BAD, x -> x.go(1, -1));
        leavesAll("go empty over a bridge", STATE, x -> x.go(1, 0));
        leavesAll("go empty over a gate", STATE, x -> x.go(1, 2));
        leavesAll("go laden over a plank", STATE, x -> x.go(0, 3));
        leavesAll("go over what is down", STATE, x -> x.go(0, 4));
        leavesAll("take of carrier 2", BAD, x -> x.take(2, 1));
        leavesAll("take of load 2", BAD, x -> x.take(1, 2));
        leavesAll("take of what another one has", STATE, x -> x.take(1, 0));
        leavesAll("take of what lies elsewhere", STATE, x -> x.take(1, 1));
        leavesAll("take of what he has", STATE, x -> x.take(0, 0));
        leavesAll("lay of carrier 2", BAD, x -> x.lay(2));
        leavesAll("lay of carrier -1", BAD, x -> x.lay(-1));
        leavesAll("lay of nothing", STATE, x -> x.lay(1));
        leavesAll("hand to himself", BAD, x -> x.hand(0, 0));
        leavesAll("hand to carrier 2", BAD, x -> x.hand(0, 2));
        leavesAll("hand of carrier -1", BAD, x -> x.hand(-1, 0));
        leavesAll("hand of nothing", STATE, x -> x.hand(1, 0));
        leavesAll("put of crossing 5", BAD, x -> x.put(5, 1));
        leavesAll("put of crossing -1", BAD, x -> x.put(-1, 1));
        leavesAll("put 2", BAD, x -> x.put(4, 2));
        leavesAll("put -1", BAD, x -> x.put(4, -1));
        leavesAll("carrier 2", BAD, x -> x.carrier(2, 0));
        leavesAll("carrier, what 4", BAD, x -> x.carrier(0, 4));
        leavesAll("load 2", BAD, x -> x.load(2, 0));
        leavesAll("load, what 3", BAD, x -> x.load(0, 3));
    }

    private static void foretold() {
        leavesAll("fewest of carrier 2", BAD, x -> x.fewest(2, 0));
        leavesAll("fewest for load 2", BAD, x -> x.fewest(0, 2));
        leavesAll("fewest of who has another one", STATE, x -> x.fewest(0, 1));
        leavesAll("fewest for what another one has", STATE, x -> x.fewest(1, 0));
        leavesAll("whom for load 2", BAD, x -> x.whom(2));
        leavesAll("off of carrier 2", BAD, x -> x.off(2, 0));
        leavesAll("off to town 6", BAD, x -> x.off(0, 6));
        leavesAll("reach of carrier 2", BAD, x -> x.reach(2));
        leavesAll("right of carrier 2", BAD, x -> x.right(2, 0));
        leavesAll("right of a ford", BAD, x -> x.right(1, 1));
        leavesAll("right of a gate", BAD, x -> x.right(1, 2));
        leavesAll("right of who has a load", STATE, x -> x.right(0, 0));
        leavesAll("walk by row 8", BAD, x -> x.walk(8, 0, 0));
        leavesAll("walk of 41", BAD, x -> x.walk(0, 41, 0));
        leavesAll("walk, what 3", BAD, x -> x.walk(0, 0, 3));
        leavesAll("walk by one that is missing", NULL, x -> x.walk(3, 0, 0));
        leavesAll("walk beyond the end", PLACE, x -> x.walk(0, 4, 0));
        leavesAll("walk with an item that is none", BAD, x -> x.walk(2, 4, 0));
    }

    private static void images() {
        leavesAll("image 2", BAD, x -> x.image(2));
        leavesAll("image -1", BAD, x -> x.image(-1));
        leavesAll("restore 2", BAD, x -> x.restore(2));
        leavesAll("restore -1", BAD, x -> x.restore(-1));
        leavesAll("restore of what was not kept", STATE, x -> x.restore(1));
    }

    private static void asked() {
        leavesAll("kind of crossing 5", BAD, x -> x.kind(5));
        leavesAll("as of crossing 5", BAD, x -> x.as(5, 0));
        leavesAll("as kind 6", BAD, x -> x.as(0, 6));
        leavesAll("as a kind that it is not", KIND, x -> x.as(0, 2));
        leavesAll("ask of crossing 5", BAD, x -> x.ask(5, 1));
        leavesAll("ask, what 2", BAD, x -> x.ask(1, 2));
        leavesAll("count 8", BAD, x -> x.count(8));
        leavesAll("count -1", BAD, x -> x.count(-1));
    }

    private static void withoutLand() {
        changesNothing("no land, go", RefusedTest::fresh, BAD, x -> x.go(0, 0));
        changesNothing("no land, take", RefusedTest::fresh, BAD, x -> x.take(0, 0));
        changesNothing("no land, lay", RefusedTest::fresh, BAD, x -> x.lay(0));
        changesNothing("no land, hand", RefusedTest::fresh, BAD, x -> x.hand(0, 1));
        changesNothing("no land, feast", RefusedTest::fresh, STATE, LadenEmpty::feast);
        changesNothing("no land, put", RefusedTest::fresh, BAD, x -> x.put(0, 0));
        changesNothing("no land, undo", RefusedTest::fresh, STATE, LadenEmpty::undo);
        changesNothing("no land, walk", RefusedTest::fresh, STATE, x -> x.walk(0, 0, 0));
        changesNothing("no land, image", RefusedTest::fresh, STATE, x -> x.image(0));
        changesNothing("no land, restore", RefusedTest::fresh, STATE, x -> x.restore(0));
        changesNothing("no land, as", RefusedTest::fresh, BAD, x -> x.as(0, 0));
        changesNothing("no land, ask", RefusedTest::fresh, BAD, x -> x.ask(0, 0));
        changesNothing("no land, set", RefusedTest::fresh, NULL, x -> x.set(0, 0, 0));
        changesNothing("no land, row", RefusedTest::fresh, SIZE, x -> x.row(0, 0, MIN));
        changesNothing("no land, drop", RefusedTest::fresh, NULL, x -> x.drop(7));
    }

    // "FORETOLD (nothing changes ..)", and all that is asked of what is
    private static void whatOnlyTells() {
        leavesAll("fault", 2, LadenEmpty::fault);
        leavesAll("status", 0, LadenEmpty::status);
        leavesAll("carrier", 1, x -> x.carrier(0, 0));
        leavesAll("load", 5, x -> x.load(1, 0));
        leavesAll("fewest", 0, x -> x.fewest(0, 0));
        leavesAll("fewest, it lies there", 0, x -> x.fewest(1, 1));
        leavesAll("whom", 0, x -> x.whom(0));
        leavesAll("off", 2, x -> x.off(0, 0));
        leavesAll("off, NONE", Due.NONE, x -> x.off(0, 5));
        leavesAll("reach", 7, x -> x.reach(1));
        leavesAll("right", 5, x -> x.right(1, 0));
        leavesAll("walk", 1, x -> x.walk(0, 2, 1));
        leavesAll("kind", 5, x -> x.kind(4));
        leavesAll("as", 0, x -> x.as(0, 1));
        leavesAll("trace", 11, x -> x.trace(0));
        leavesAll("count", 4, x -> x.count(4));
    }
}
