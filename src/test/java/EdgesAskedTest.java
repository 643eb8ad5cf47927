import java.util.function.ToIntFunction;

/** The boundary cases of promises 26 to 31: the last call that is well, and the first that is not. */
final class EdgesAskedTest {
    private static final int NONE = Due.NONE, BAD = Due.BAD, STATE = Due.STATE, FULL = Due.FULL;
    private static final int KIND = Due.KIND;
    private static final String[] SORTS = {"", "bridge", "gate", "ford", "plank", "ferry"};
    private static final String ONE = "crossing gate 5 4 9;carrier 5 0;load 5 4;";
    private static final String SIX = "crossing ferry 1 2 3;crossing plank 1 2 3;crossing ford 1 2 3;"
        + "crossing gate 1 2 3;crossing bridge 1 2 3;crossing gate 5 0 9;";

    public static void main(String[] args) {
        withoutLand();
        kindOf();
        asOf();
        asEachKind();
        askOf();
        askTheLeastAndTheMost();
        askOfCrossingsAlone();
        traceAtFirst();
        traceOf();
        traceEmptyAhead();
        traceStays();
        countOf();
        countAtFirst();
        countTheMost();
        statusAtFirst();
        statusOfRefused();
        statusOfOthers();
        statusOfEach();
        Due.end();
    }

    private static void withoutLand() {
        LadenEmpty x = new LadenEmpty();
        Due.due("26: no land", x.kind(0), BAD);
        Due.due("27: no land", x.as(0, 0), BAD);
        Due.due("28: no land", x.ask(0, 0), BAD);
        Due.due("29: no land", x.trace(0), NONE);
        Due.tell(x, "crossing gate");
        Due.due("26: a fault", x.kind(0), BAD);
        Due.due("27: a fault", x.as(0, 0), BAD);
        Due.due("28: a fault", x.ask(0, 0), BAD);
        Due.tell(x, ONE);
        Due.due("26: a land", x.kind(0), 2);
        Due.due("27: a land", x.as(0, 0), 0);
        Due.due("28: a land", x.ask(0, 1), -995);
        Due.due("29: a land", x.trace(0), 22);
    }

    private static void kindOf() {
        LadenEmpty x = Due.told(SIX);
        Due.due("26: the first of six", x.kind(0), 5);
        Due.due("26: the last of six", x.kind(5), 2);
        Due.outside("26: crossing", 0, 5, BAD, x::kind);
        for (int kind = 1; kind <= 5; kind++) {
            LadenEmpty y = Due.told("crossing " + SORTS[kind] + " 0 1 1;");
            Due.due("26: a " + SORTS[kind], y.kind(0), kind);
            Due.outside("26: crossing of one", 0, 0, BAD, y::kind);
            y.put(0, 0);
            Due.due("26: as told, down", y.kind(0), kind);
            y.as(0, 0);
            Due.due("26: as told, taken as a crossing", y.kind(0), kind);
        }
    }

    // "CROSSINGS 0 .. 5", "KIND (0 .. 5)"; "BAD; KIND: it is no such one"
    private static void asOf() {
        LadenEmpty x = Due.told(SIX);
        Due.due("27: the first of six", x.as(0, 0), 0);
        Due.due("27: the last of six", x.as(5, 0), 5);
        Due.due("27: the last kind", x.as(0, 5), 0);
        for (int kind = 0; kind < 6; kind++) {
            int asked = kind;
            Due.outside("27: crossing, kind " + kind + ",", 0, 5, BAD, i -> x.as(i, asked));
        }
        for (int i = 0; i < 6; i++) {
            int crossing = i;
            Due.outside("27: kind of " + i, 0, 5, BAD, kind -> x.as(crossing, kind));
        }
        LadenEmpty y = Due.told(ONE);
        Due.due("27: the only one", y.as(0, 2), 0);
        Due.outside("27: crossing of one", 0, 0, BAD, i -> y.as(i, 2));
        Due.due("31: BAD is none of these", y.status(), 0);
        Due.due("27: no such one", y.as(0, 3), KIND);
        Due.outside("27: crossing, kind it is not,", 0, 0, BAD, i -> y.as(i, 3));
        Due.due("31: BAD is none of these, too", y.status(), 3);
    }

    // "0 CROSSING; 1 BRIDGE, a CROSSING; 2 GATE, a BRIDGE; 3 FORD, a CROSSING; 4 PLANK, a FORD; 5 FERRY, a FORD"
    private static void asEachKind() {
        boolean[][] is = {
            {},
            {true, true, false, false, false, false},
            {true, true, true, false, false, false},
            {true, false, false, true, false, false},
            {true, false, false, true, true, false},
            {true, false, false, true, false, true}};
        for (int kind = 1; kind <= 5; kind++) {
            LadenEmpty x = Due.told("crossing ford 0 1 1;crossing " + SORTS[kind] + " 0 1 1;");
            for (int as = 0; as <= 5; as++) {
                Due.due("27: a " + SORTS[kind] + " as " + as, x.as(1, as), is[kind][as] ? 1 : KIND);
                Due.due("31: a " + SORTS[kind] + " as " + as, x.status(), is[kind][as] ? 0 : 3);
            }
        }
    }

    private static void askOf() {
        LadenEmpty x = Due.told(SIX);
        Due.due("28: SIZE of the first", x.ask(0, 0), -97);
        Due.due("28: SIZE of the last", x.ask(5, 0), -(9 + 5 + 5 - 1000));
        Due.due("28: MARK of the first", x.ask(0, 1), 2 * 97);
        Due.due("28: MARK of the last", x.ask(5, 1), 5 + 5 - 1000);
        Due.outside("28: SIZE of", 0, 5, BAD, i -> x.ask(i, 0));
        Due.outside("28: MARK of", 0, 5, BAD, i -> x.ask(i, 1));
        for (int i = 0; i < 6; i++) {
            int crossing = i;
            Due.outside("28: what of " + i, 0, 1, BAD, what -> x.ask(crossing, what));
        }
        LadenEmpty y = Due.told(ONE);
        Due.due("28: of the only one", y.ask(0, 0), -(9 + 5 - 1000));
        Due.outside("28: SIZE of one", 0, 0, BAD, i -> y.ask(i, 0));
        Due.outside("28: MARK of one", 0, 0, BAD, i -> y.ask(i, 1));
    }

    // Each KIND as the first and the sixth CROSSING, with the least and the most of A and of STEPS.
    private static void askTheLeastAndTheMost() {
        for (int number = 0; number < 6; number += 5) {
            for (int a = 0; a < 6; a += 5) {
                for (int steps = 1; steps <= 9; steps += 8) {
                    int[] size = {0, steps + number + a, -(steps + number + a - 1000), steps - 100, 2 * (steps - 100),
                        steps - 100};
                    int[] mark = {0, number + a, number + a - 1000, number - (steps - 100), number - 2 * (steps - 100),
                        2 * (number - (steps - 100))};
                    for (int kind = 1; kind <= 5; kind++) {
                        LadenEmpty x = Due.told("crossing ford 1 2 3;".repeat(number)
                            + "crossing " + SORTS[kind] + " " + a + " " + (5 - a) + " " + steps + ";");
                        String what = SORTS[kind] + " " + number + ", A " + a + ", steps " + steps;
                        Due.due("28: SIZE of " + what, x.ask(number, 0), size[kind]);
                        Due.due("28: MARK of " + what, x.ask(number, 1), mark[kind]);
                    }
                }
            }
        }
    }

    // What becomes of the land by acts is not asked.
    private static void askOfCrossingsAlone() {
        LadenEmpty x = Due.told(ONE);
        x.go(0, 0);
        x.feast();
        x.put(0, 0);
        Due.due("28: SIZE as ahead of the acts", x.ask(0, 0), 986);
        Due.due("28: MARK as ahead of the acts", x.ask(0, 1), -995);
        Due.due("30: no act by these", x.count(4), 3);
    }

    private static void traceAtFirst() {
        LadenEmpty x = new LadenEmpty();
        for (int i = 0; i < 17; i++) {
            Due.due("29: at first, " + i, x.trace(i), NONE);
        }
        Due.tell(x, ONE);
        Due.due("29: behind a land", x.trace(0), NONE);
    }

    private static void traced(LadenEmpty x, String what, int... bodies) {
        for (int i = 0; i < bodies.length; i++) {
            Due.due("29: trace " + i + " of " + what, x.trace(i), bodies[i]);
        }
        Due.outside("29: trace of " + what, 0, bodies.length - 1, NONE, x::trace);
        for (int i = bodies.length; i < 18; i++) {
            Due.due("29: trace " + i + " of " + what, x.trace(i), NONE);
        }
    }

    private static void traceOf() {
        int[][] size = {{}, {11, 10, 21, 20}, {12, 11, 10, 22, 21, 20}, {13, 10}, {14, 13, 10}, {13, 10}};
        int[][] mark = {{}, {21, 20}, {22, 21, 20}, {23, 20, 13, 10}, {23, 20, 14, 13, 10}, {24, 23, 20, 13, 10}};
        for (int kind = 1; kind <= 5; kind++) {
            LadenEmpty x = Due.told("crossing " + SORTS[kind] + " 0 1 1;");
            x.ask(0, 0);
            traced(x, "SIZE of a " + SORTS[kind], size[kind]);
            x.ask(0, 1);
            traced(x, "MARK of a " + SORTS[kind], mark[kind]);
        }
    }

    // "THE TRACE is empty ahead of it": the longest one, then the shortest ones
    private static void traceEmptyAhead() {
        LadenEmpty x = Due.told("crossing gate 0 1 1;crossing bridge 0 1 1;crossing ford 0 1 1;");
        for (int i = 0; i < 5; i++) {
            x.ask(0, 0);
        }
        traced(x, "the longest, five times", 12, 11, 10, 22, 21, 20);
        x.ask(1, 1);
        traced(x, "MARK of the bridge", 21, 20);
        x.ask(2, 0);
        traced(x, "SIZE of the ford", 13, 10);
    }

    // "(where that is refused it stays)"
    private static void traceStays() {
        LadenEmpty x = Due.told("crossing bridge 0 1 1;");
        x.ask(0, 0);
        Due.due("28: crossing -1", x.ask(-1, 1), BAD);
        Due.due("28: crossing 1", x.ask(1, 1), BAD);
        Due.due("28: what -1", x.ask(0, -1), BAD);
        Due.due("28: what 2", x.ask(0, 2), BAD);
        traced(x, "one ahead of refused ones", 11, 10, 21, 20);
        x.as(0, 1);
        x.kind(0);
        x.image(0);
        x.feast();
        x.undo();
        x.restore(0);
        Due.tell(x, "crossing");
        Due.tell(x, "crossing plank 0 1 1;");
        traced(x, "one ahead of other calls", 11, 10, 21, 20);
    }

    private static void countOf() {
        LadenEmpty x = new LadenEmpty();
        Due.outside("30: no land, what", 0, 7, BAD, x::count);
        Due.tell(x, ONE);
        Due.outside("30: what", 0, 7, BAD, x::count);
        int[] due = {0, 1, 1, 1, 0, 0, 0, 0};
        for (int what = 0; what < 8; what++) {
            Due.due("30: count(" + what + ")", x.count(what), due[what]);
        }
    }

    private static void countAtFirst() {
        LadenEmpty x = new LadenEmpty();
        for (int what = 0; what < 8; what++) {
            Due.due("30: at first, count(" + what + ")", x.count(what), 0);
        }
        x.row(0, 0, 0);
        x.feed(0L, 1);
        for (int what = 0; what < 8; what++) {
            Due.due("30: no land, count(" + what + ")", x.count(what), what == 0 || what == 7 ? 1 : 0);
        }
    }

    private static void countTheMost() {
        LadenEmpty x = Due.told("crossing gate 0 1 9;".repeat(6) + "carrier 0 0;".repeat(3) + "load 0 0;".repeat(4));
        for (int r = 0; r < 8; r++) {
            x.row(r, 0, 0);
        }
        for (int i = 0; i < 24; i++) {
            x.feast();
        }
        x.feast();
        Due.feedText(x, " ".repeat(400));
        x.feed(0L, 1);
        int[] due = {8, 6, 3, 4, 24, 0, 63, 400};
        for (int what = 0; what < 8; what++) {
            Due.due("30: the most, count(" + what + ")", x.count(what), due[what]);
        }
        x.drop(7);
        x.undo();
        x.land();
        int[] less = {7, 6, 3, 4, 23, 0, 0, 0};
        for (int what = 0; what < 8; what++) {
            Due.due("30: less, count(" + what + ")", x.count(what), less[what]);
        }
    }

    // "0: it had none, or there was none"
    private static void statusAtFirst() {
        LadenEmpty x = new LadenEmpty();
        Due.due("31: at first", x.status(), 0);
        x.row(8, 0, 0);
        x.walk(0, 0, 0);
        x.as(0, 0);
        x.land();
        x.feast();
        Due.due("31: nothing but refused ones", x.status(), 0);
        x.drop(0);
        Due.due("31: a finding", x.status(), 1);
        Due.due("31: asked again", x.status(), 1);
        x.row(0, 0, 0);
        Due.due("31: none", x.status(), 0);
    }

    // Of a finding, and of none: what is BAD, or STATE, is not the latest such call.
    private static void statusOfRefused() {
        for (int number = 0; number < 2; number++) {
            LadenEmpty x = Due.told(ONE);
            LadenEmpty y = new LadenEmpty();
            x.row(0, 0, 1);
            y.row(0, 0, 1);
            if (number == 1) {
                x.drop(1);
                y.drop(1);
            }
            int due = number;
            unchanged(x, due, "row, row", BAD, z -> z.row(8, 0, -1));
            unchanged(x, due, "row, lane", BAD, z -> z.row(0, 3, -1));
            unchanged(x, due, "row, n", BAD, z -> z.row(0, 0, 41));
            unchanged(x, due, "set", BAD, z -> z.set(-1, 0, 0));
            unchanged(x, due, "copy, a", BAD, z -> z.copy(8, 0, 0, 0, 0));
            unchanged(x, due, "copy, b", BAD, z -> z.copy(0, 0, -1, 0, 0));
            unchanged(x, due, "drop", BAD, z -> z.drop(8));
            unchanged(x, due, "walk, row", BAD, z -> z.walk(8, 0, 0));
            unchanged(x, due, "walk, n", BAD, z -> z.walk(1, -1, 0));
            unchanged(x, due, "walk, what", BAD, z -> z.walk(1, 0, 3));
            unchanged(y, due, "walk, no land", STATE, z -> z.walk(1, 0, 0));
            unchanged(x, due, "as, crossing", BAD, z -> z.as(1, 3));
            unchanged(x, due, "as, kind", BAD, z -> z.as(0, 6));
        }
        LadenEmpty w = Due.told(ONE);
        Due.row(w, 0, 2, 0, 2);
        unchanged(w, 0, "walk, an item behind none", BAD, z -> z.walk(0, 2, 0));
        w.as(0, 4);
        unchanged(w, 3, "walk, an item behind a finding", BAD, z -> z.walk(0, 2, 0));
    }

    private static void unchanged(LadenEmpty x, int status, String what, int due, ToIntFunction<LadenEmpty> call) {
        Due.due("31: " + what, call.applyAsInt(x), due);
        Due.due("31: behind " + what, x.status(), status);
    }

    // "Of the latest call with a ROW, or as()": no other call
    private static void statusOfOthers() {
        for (int number = 0; number <= 3; number += 3) {
            LadenEmpty x = Due.told("crossing ford 0 1 1;carrier 0 0;carrier 0 0;load 0 1;");
            x.as(0, number == 3 ? 4 : 0);
            int due = number;
            unchanged(x, due, "feed", 1, z -> z.feed(0L, 1));
            unchanged(x, due, "feed, BAD", BAD, z -> z.feed(0L, 0));
            unchanged(x, due, "land", -1000100, LadenEmpty::land);
            unchanged(x, due, "fault", 1, LadenEmpty::fault);
            unchanged(x, due, "take", 0, z -> z.take(0, 0));
            unchanged(x, due, "take, STATE", STATE, z -> z.take(0, 0));
            unchanged(x, due, "hand", 0, z -> z.hand(0, 1));
            unchanged(x, due, "hand, BAD", BAD, z -> z.hand(0, 0));
            unchanged(x, due, "go", 1, z -> z.go(1, 0));
            unchanged(x, due, "lay", 0, z -> z.lay(1));
            unchanged(x, due, "feast", 1, LadenEmpty::feast);
            unchanged(x, due, "put", 1, z -> z.put(0, 0));
            unchanged(x, due, "undo", 5, LadenEmpty::undo);
            unchanged(x, due, "carrier", 1, z -> z.carrier(1, 0));
            unchanged(x, due, "load", 1, z -> z.load(0, 0));
            unchanged(x, due, "fewest", 0, z -> z.fewest(0, 0));
            unchanged(x, due, "whom", 0, z -> z.whom(0));
            unchanged(x, due, "off", 1, z -> z.off(0, 1));
            unchanged(x, due, "reach", 3, z -> z.reach(0));
            unchanged(x, due, "right", BAD, z -> z.right(0, 0));
            unchanged(x, due, "image", 1, z -> z.image(0));
            unchanged(x, due, "restore", 1, z -> z.restore(0));
            unchanged(x, due, "restore, STATE", STATE, z -> z.restore(1));
            unchanged(x, due, "kind", 3, z -> z.kind(0));
            unchanged(x, due, "ask", -99, z -> z.ask(0, 0));
            unchanged(x, due, "trace", 13, z -> z.trace(0));
            unchanged(x, due, "count", 1, z -> z.count(1));
            Due.feedText(x, " ".repeat(400));
            unchanged(x, due, "feed, FULL", FULL, z -> z.feed(0L, 1));
            Due.due("7: blanks", x.land(), -1000500);
            unchanged(x, due, "a land", 1, z -> Due.tell(z, "crossing ford 0 1 1;"));
        }
    }

    // "the number of its FINDING": each of 1 to 5 by each call that has it; 0 behind one that has none
    private static void statusOfEach() {
        LadenEmpty x = Due.told(ONE);
        x.row(0, 0, 1);
        x.row(1, 1, 1);
        finds(x, 1, "set of a missing one", z -> z.set(2, 0, 0));
        finds(x, 1, "copy of a missing one", z -> z.copy(2, 0, 0, 0, 0));
        finds(x, 1, "copy to a missing one", z -> z.copy(0, 0, 2, 0, 0));
        finds(x, 1, "drop of a missing one", z -> z.drop(2));
        finds(x, 1, "walk by a missing one", z -> z.walk(2, 0, 0));
        finds(x, 2, "set", z -> z.set(0, 1, 0));
        finds(x, 2, "copy", z -> z.copy(0, 0, 0, 0, 2));
        finds(x, 2, "walk", z -> z.walk(0, 2, 0));
        finds(x, 3, "as", z -> z.as(0, 3));
        finds(x, 4, "row", z -> z.row(0, 0, -1));
        finds(x, 5, "copy of two lanes", z -> z.copy(0, 0, 1, 0, 0));
    }

    private static void finds(LadenEmpty x, int number, String what, ToIntFunction<LadenEmpty> call) {
        Due.due("31: " + what, call.applyAsInt(x), -1000010 - number);
        Due.due("31: its number, " + what, x.status(), number);
        Due.due("31: set, behind " + what, x.set(0, 0, 0) + x.status(), 0);
        call.applyAsInt(x);
        Due.due("31: copy, behind " + what, x.copy(0, 0, 0, 0, 1) + x.status(), 1);
        call.applyAsInt(x);
        Due.due("31: walk, behind " + what, x.walk(0, 0, 1) + x.status(), 0);
        call.applyAsInt(x);
        Due.due("31: as, behind " + what, x.as(0, 1) + x.status(), 0);
        call.applyAsInt(x);
        Due.due("31: row, behind " + what, x.row(7, 0, 0) + x.status(), 0);
        call.applyAsInt(x);
        Due.due("31: drop, behind " + what, x.drop(7) + x.status(), 0);
    }
}
