/** Promises 18 to 25: what is foretold, walks that are told, images. */
final class ForetoldTest {
    private static final int NONE = Due.NONE, BAD = Due.BAD, STATE = Due.STATE;

    public static void main(String[] args) {
        fewest();
        fewestByLayingInTheMiddle();
        oneBehindTheOther();
        whom();
        off();
        right();
        walk();
        walkRefused();
        images();
        Due.end();
    }

    private static void fewest() {
        LadenEmpty x = Due.told("crossing bridge 0 1 3;crossing ford 0 1 9;crossing ferry 1 2 2;crossing plank 2 3 1;"
            + "carrier 0 1;carrier 1 0;load 0 2;load 1 1;load 2 3;load 1 0;");
        Due.due("18: bridge and ferry", x.fewest(0, 0), 5);
        Due.due("18: he goes empty by the ford: 9, or 3 over the bridge", x.fewest(1, 0), 8);
        Due.due("18: it lies there", x.fewest(0, 1), 0);
        Due.due("18: a plank lets no load", x.fewest(0, 2), NONE);
        Due.due("18: back by the ford alone", x.fewest(1, 3), 9);
        Due.due("18: carrier 2", x.fewest(2, 0), BAD);
        Due.due("18: load 4", x.fewest(0, 4), BAD);
        Due.due("18: load -1", x.fewest(0, -1), BAD);
        x.take(0, 0);
        Due.due("18: with it", x.fewest(0, 0), 5);
        Due.due("18: he has another", x.fewest(0, 1), STATE);
        Due.due("18: another one has it", x.fewest(1, 0), STATE);
        x.put(2, 0);
        Due.due("18: no ferry", x.fewest(0, 0), NONE);
        Due.due("18: nothing changed", x.carrier(0, 0) + x.count(5), 0);
        LadenEmpty y = Due.told("crossing ford 0 1 1;carrier 0 0;load 0 0;");
        y.take(0, 0);
        Due.due("18: he lays it where he is", y.fewest(0, 0), 0);
    }

    // He is to go empty over both bridges: there and back he turns the one, then lays the load
    // ahead of the other one, goes over it empty, comes back another way, and so on.
    private static void fewestByLayingInTheMiddle() {
        LadenEmpty x = Due.told("crossing bridge 0 1 1;crossing bridge 1 2 1;crossing ford 1 2 5;"
            + "crossing plank 1 0 1;carrier 0 0;load 0 2;");
        Due.due("18: turned one by one", x.fewest(0, 0), 1 + 1 + 1 + 5);
        x.put(2, 0);
        Due.due("18: no way back", x.fewest(0, 0), NONE);
        LadenEmpty y = Due.told("crossing bridge 0 1 1;crossing bridge 1 2 1;crossing plank 2 1 2;"
            + "crossing plank 1 0 1;carrier 0 1;load 0 2;");
        Due.due("18: laid down ahead of the other bridge", y.fewest(0, 0), 1 + 1 + 2 + 1);
        LadenEmpty z = Due.told("crossing gate 0 1 1;crossing plank 0 1 4;carrier 0 0;load 0 1;");
        Due.due("18: a gate that he turns", z.fewest(0, 0), 1 + 4 + 1);
        z.feast();
        Due.due("18: a gate that is turned", z.fewest(0, 0), 1);
        Due.due("18: gates stay", z.count(6), 1);
    }

    // The first answer is found ahead of the tenth step, behind which he would be in town 0 by the bridge.
    private static void oneBehindTheOther() {
        LadenEmpty x = Due.told("crossing ford 2 1 1;crossing bridge 1 0 9;crossing ford 1 0 1;"
            + "carrier 2 0;carrier 5 0;load 0 1;");
        Due.due("18: by the fords", x.fewest(0, 0), 3);
        Due.due("18: stuck, whatever was asked ahead", x.fewest(1, 0), NONE);
    }

    private static void whom() {
        LadenEmpty x = Due.told("crossing ford 0 1 2;crossing ford 1 2 2;carrier 2 0;carrier 0 0;carrier 0 0;"
            + "load 0 2;load 5 0;load 0 0;load 2 0;");
        Due.due("19: of several the first", x.whom(0), 1);
        Due.due("19: none can", x.whom(1), NONE);
        Due.due("19: it lies there", x.whom(2), 0);
        x.take(1, 2);
        Due.due("19: one has another", x.whom(0), 2);
        Due.due("19: it is with one", x.whom(2), 1);
        x.take(0, 3);
        Due.due("19: with him alone", x.whom(3), 0);
        x.put(0, 0);
        Due.due("19: he cannot", x.whom(3), NONE);
        Due.due("19: who has another is not asked", x.whom(0), NONE);
        Due.due("19: load 4", x.whom(4), BAD);
        Due.due("19: load -1", x.whom(-1), BAD);
        Due.due("19: no carriers", Due.told("crossing ford 0 1 2;load 0 0;").whom(0), NONE);
    }

    private static void off() {
        LadenEmpty x = Due.told("crossing bridge 0 1 4;crossing plank 1 2 1;crossing ferry 1 3 1;crossing ford 2 0 9;"
            + "crossing gate 0 3 8;carrier 0 0;load 1 4;");
        Due.due("20: here", x.off(0, 0), 0);
        Due.due("20: bridge", x.off(0, 1), 4);
        Due.due("20: bridge and plank", x.off(0, 2), 5);
        Due.due("20: gate", x.off(0, 3), 8);
        Due.due("20: stuck", x.off(0, 4), NONE);
        Due.due("21: empty", x.reach(0), 15);
        x.go(0, 0);
        x.take(0, 0);
        Due.due("20: back over the bridge, laden", x.off(0, 0), 4);
        Due.due("20: on from there", x.off(0, 2), 13);
        Due.due("20: a ferry", x.off(0, 3), 1);
        x.put(0, 0);
        Due.due("20: no bridge", x.off(0, 0), NONE);
        Due.due("21: laden", x.reach(0), 10);
        Due.due("20: town 6", x.off(0, 6), BAD);
        Due.due("20: town -1", x.off(0, -1), BAD);
        Due.due("20: carrier 1", x.off(1, 0), BAD);
        Due.due("21: carrier 1", x.reach(1), BAD);
        Due.due("21: carrier -1", x.reach(-1), BAD);
        LadenEmpty y = Due.told("crossing bridge 0 1 1;carrier 0 1;carrier 0 0;");
        Due.due("21: not as he is", y.reach(0), 1);
        Due.due("21: as the other one is", y.reach(1), 3);
    }

    private static void right() {
        LadenEmpty x = Due.told("crossing bridge 0 1 3;crossing ford 1 0 5;crossing bridge 1 2 1;crossing bridge 2 0 1;"
            + "crossing gate 0 1 1;crossing plank 2 1 6;carrier 0 0;carrier 4 0;load 0 1;");
        Due.due("22: there by the bridge, back by the ford", x.right(0, 0), 8);
        Due.due("22: he turns the other one back", x.right(0, 2), 1 + 1 + 6 + 1);
        Due.due("22: one that is elsewhere", x.right(1, 0), NONE);
        x.put(5, 0);
        Due.due("22: three ways round are turned", x.right(0, 2), NONE);
        Due.due("22: round the bridges twice", x.right(0, 3), NONE);
        x.put(0, 0);
        Due.due("22: it is down", x.right(0, 0), NONE);
        Due.due("22: a ford", x.right(0, 1), BAD);
        Due.due("22: a gate", x.right(0, 4), BAD);
        Due.due("22: crossing 6", x.right(0, 6), BAD);
        Due.due("22: crossing -1", x.right(0, -1), BAD);
        Due.due("22: carrier 2", x.right(2, 0), BAD);
        x.take(0, 0);
        Due.due("22: he has a load", x.right(0, 0), STATE);
        Due.due("22: BAD ahead of it", x.right(0, 1), BAD);
        LadenEmpty y = Due.told("crossing bridge 0 1 3;crossing ferry 1 0 2;carrier 0 1;carrier 1 0;load 1 1;");
        Due.due("22: a stone both ways", y.right(0, 0), 5);
        Due.due("22: a stone one way", y.right(1, 0), 5);
        LadenEmpty z = Due.told("crossing bridge 0 1 3;crossing gate 1 0 2;carrier 0 1;");
        Due.due("22: gates are not gone over", z.right(0, 0), NONE);
    }

    private static void walks(LadenEmpty x, String what, int n, int fits, int sure, int wrong) {
        Due.due("23: FITS " + what, x.walk(0, n, 0), fits);
        Due.due("23: SURE " + what, x.walk(0, n, 1), sure);
        Due.due("23: WRONG " + what, x.walk(0, n, 2), wrong);
    }

    private static void walk() {
        LadenEmpty x = Due.told("crossing bridge 0 1 1;crossing gate 0 1 1;crossing ford 0 1 1;"
            + "crossing plank 0 1 1;crossing ferry 0 1 1;crossing bridge 0 1 1;");
        Due.row(x, 0, 1, 1, 4, 5, 5, 7, 7, 8, 8, 0, 2, 3, 1, 2, 11, 1, 0);
        walks(x, "no step", 0, 8, 0, NONE);
        walks(x, "one laden", 1, 4, 1, NONE);
        walks(x, "what does not count", 8, 4, 1, NONE);
        walks(x, "empty then", 9, 4, 1, NONE);
        walks(x, "a gate empty first", 10, 2, 1, NONE);
        walks(x, "all by turns", 13, 2, 1, NONE);
        walks(x, "the last one laden first", 14, 1, 33, NONE);
        walks(x, "one as the last time", 15, 0, NONE, 14);
        walks(x, "and then right", 16, 0, NONE, 14);
        Due.row(x, 0, 0, 2, 2);
        walks(x, "a gate as the last time", 2, 0, NONE, 1);
        x.put(0, 0);
        walks(x, "also what is down", 1, 4, 0, NONE);
        Due.row(x, 0, 2, new int[40]);
        for (int i = 0; i < 40; i++) {
            x.set(0, i, i & 1);
        }
        walks(x, "forty steps", 40, 4, 0, NONE);
    }

    private static void walkRefused() {
        LadenEmpty x = new LadenEmpty();
        Due.due("23: no land", x.walk(9, 41, 3), STATE);
        Due.tell(x, "crossing bridge 0 1 1;crossing ford 0 1 1;");
        Due.row(x, 0, 2, 3, 4, -1);
        Due.due("23: row 8", x.walk(8, 0, 0), BAD);
        Due.due("23: row -1", x.walk(-1, 0, 0), BAD);
        Due.due("23: n 41", x.walk(0, 41, 0), BAD);
        Due.due("23: n -1", x.walk(0, -1, 0), BAD);
        Due.due("23: what 3", x.walk(0, 0, 3), BAD);
        Due.due("23: what -1", x.walk(1, 0, -1), BAD);
        Due.due("23: missing", x.walk(1, 40, 0), Due.NULL);
        Due.due("23: beyond its end, ahead of items", x.walk(0, 4, 0), Due.PLACE);
        Due.due("23: items that are", x.walk(0, 1, 0), 2);
        Due.due("23: no such crossing", x.walk(0, 2, 0), BAD);
        x.set(0, 1, 0);
        Due.due("23: below 0", x.walk(0, 3, 2), BAD);
        Due.due("23: none behind n", x.walk(0, 2, 1), 0);
    }

    private static void images() {
        LadenEmpty x = new LadenEmpty();
        Due.due("24: image 2", x.image(2), BAD);
        Due.due("24: image -1", x.image(-1), BAD);
        Due.due("24: no land", x.image(0), STATE);
        Due.tell(x, "crossing gate 0 1 7;crossing bridge 0 1 1;carrier 0 0;carrier 0 2;load 0 3;");
        x.go(0, 0);
        x.take(1, 0);
        x.put(1, 0);
        Due.due("24: kept", x.image(1), 1);
        Due.due("25: none was kept", x.restore(0), STATE);
        Due.due("25: image 2", x.restore(2), BAD);
        Due.due("25: image -1", x.restore(-1), BAD);
        x.feast();
        x.lay(1);
        x.put(1, 1);
        x.go(1, 1);
        x.row(3, 0, 1);
        Due.tell(x, "crossing ford 3 4 2;crossing ford 3 4 2;crossing plank 0 5 4;load 4 4;load 4 4;");
        Due.due("24: the other one", x.image(0), 1);
        Due.due("25: as it was kept", x.restore(1), 1);
        Due.due("25: crossings", x.count(1), 2);
        Due.due("25: carriers", x.count(2), 2);
        Due.due("25: loads", x.count(3), 1);
        Due.due("25: no act", x.count(4), 0);
        Due.due("25: none to undo", x.undo(), STATE);
        Due.due("25: steps", x.count(5), 7);
        Due.due("25: gates", x.count(6), 1);
        Due.due("25: rows stay", x.count(0), 1);
        Due.due("25: kinds", x.kind(0), 2);
        Due.due("25: towns", x.carrier(0, 0), 1);
        Due.due("25: laden next", x.carrier(1, 2), 2);
        Due.due("25: who has it", x.load(0, 2), 1);
        Due.due("25: goals", x.load(0, 1), 3);
        Due.due("25: what is up", x.carrier(1, 3), 1);
        x.go(1, 0);
        Due.due("25: the image is not changed", x.restore(1), 1);
        Due.due("25: again", x.carrier(1, 0), 0);
        Due.due("25: the other one", x.restore(0), 1);
        Due.due("25: its crossings", x.count(1), 3);
        Due.due("25: its steps", x.count(5), 0);
        x.feast();
        Due.due("24: an act stays", x.image(0) + x.count(4), 2);
    }
}
