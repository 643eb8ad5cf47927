import java.util.List;

/** The boundary cases of promises 18 to 25: the last call that is well, and the first that is not. */
final class EdgesForetoldTest {
    private static final int NONE = Due.NONE, BAD = Due.BAD, STATE = Due.STATE, NULL = Due.NULL, PLACE = Due.PLACE;
    private static final int BYTES = 0, SHORTS = 1, INTS = 2;
    private static final String FORD = "crossing ford 0 1 1;", BRIDGE = "crossing bridge 0 1 1;";
    private static final String ONE = FORD + "carrier 0 0;load 0 1;";
    private static final String ALL = BRIDGE.repeat(5) + FORD + "carrier 0 0;carrier 0 0;carrier 1 0;"
        + "load 0 1;load 0 1;load 0 1;load 1 0;";

    public static void main(String[] args) {
        withoutLand();
        fewestOf();
        fewestWhereItLies();
        fewestOfHisOwn();
        fewestOrNone();
        fewestFromTownToTown();
        fewestByTheShorter();
        farthest();
        whomOf();
        whomOfSeveral();
        whomOfThoseWhoCan();
        whomWithOne();
        offOf();
        offHere();
        offAsHeIs();
        reachOf();
        reachOfTowns();
        rightOf();
        rightRefused();
        rightOrNone();
        rightNotByGates();
        rightAllOthersAsNow();
        rightOfAllSets();
        foretoldChangesNothing();
        oneLeavesNothingToTheNext();
        walkOfRows();
        walkOfSteps();
        walkOfWhat();
        walkInOrder();
        walkOfItems();
        walkOfLanes();
        walkWrong();
        walkFits();
        walkSure();
        imageOf();
        restoreOf();
        imageIsOfThen();
        Due.end();
    }

    private static void withoutLand() {
        LadenEmpty x = new LadenEmpty();
        Due.due("18: no land", x.fewest(0, 0), BAD);
        Due.due("19: no land", x.whom(0), BAD);
        Due.due("20: no land", x.off(0, 0), BAD);
        Due.due("21: no land", x.reach(0), BAD);
        Due.due("22: no land", x.right(0, 0), BAD);
        Due.due("23: no land", x.walk(0, 0, 0), STATE);
        Due.due("24: no land", x.image(0), STATE);
        Due.due("25: no land, no image", x.restore(0), STATE);
        Due.tell(x, BRIDGE);
        Due.due("18: no carrier, no load", x.fewest(0, 0), BAD);
        Due.due("19: no load", x.whom(0), BAD);
        Due.due("20: no carrier", x.off(0, 0), BAD);
        Due.due("21: no carrier", x.reach(0), BAD);
        Due.due("22: no carrier", x.right(0, 0), BAD);
        Due.due("23: a land, no row", x.walk(0, 0, 0), NULL);
        Due.due("24: a land", x.image(0), 1);
        Due.due("25: an image", x.restore(0), 1);
        Due.tell(x, BRIDGE + "load 0 1;");
        Due.due("18: no carrier", x.fewest(0, 0), BAD);
        Due.due("19: no carrier, but a load", x.whom(0), NONE);
        Due.tell(x, BRIDGE + "carrier 0 1;");
        Due.due("18: no load", x.fewest(0, 0), BAD);
        Due.due("19: a carrier, but no load", x.whom(0), BAD);
        Due.due("20: a carrier", x.off(0, 0), 0);
    }

    private static void fewestOf() {
        LadenEmpty x = Due.told(ALL);
        Due.due("18: the first carrier, the first load", x.fewest(0, 0), 1);
        Due.due("18: the last carrier, the last load", x.fewest(2, 3), 1);
        Due.outside("18: carrier", 0, 2, BAD, c -> x.fewest(c, 0));
        Due.outside("18: load", 0, 3, BAD, l -> x.fewest(0, l));
        x.take(0, 0);
        Due.outside("18: load, he has one,", 0, 3, BAD, l -> x.fewest(0, l));
        LadenEmpty y = Due.told(ONE);
        Due.outside("18: carrier of one", 0, 0, BAD, c -> y.fewest(c, 0));
        Due.outside("18: load of one", 0, 0, BAD, l -> y.fewest(0, l));
        Due.due("18: the only ones", y.fewest(0, 0), 1);
    }

    // "0, if it lies there now"
    private static void fewestWhereItLies() {
        for (int goal = 0; goal < 6; goal++) {
            LadenEmpty x = Due.told(FORD + "carrier 5 0;load " + goal + " " + goal + ";load "
                + goal + " " + (goal + 1) % 6 + ";");
            Due.due("18: it lies there, he is elsewhere, " + goal, x.fewest(0, 0), 0);
            Due.due("18: it lies elsewhere, he cannot, " + goal, x.fewest(0, 1), NONE);
            Due.due("19: it lies there, " + goal, x.whom(0), 0);
            Due.due("19: it lies elsewhere, " + goal, x.whom(1), NONE);
        }
    }

    private static void fewestOfHisOwn() {
        LadenEmpty x = Due.told(ALL);
        x.take(2, 3);
        Due.due("18: he has it, one step from there", x.fewest(2, 3), 1);
        x.go(2, 5);
        Due.due("18: he has it, and is there", x.fewest(2, 3), 0);
        Due.due("18: another one has it, who is there", x.fewest(0, 3), STATE);
        Due.due("18: he has another one", x.fewest(2, 0), STATE);
        Due.due("18: BAD ahead of STATE, load", x.fewest(2, 4), BAD);
        Due.due("18: BAD ahead of STATE, carrier", x.fewest(3, 3), BAD);
        x.hand(2, 0);
        Due.due("18: it was handed", x.fewest(2, 3), STATE);
        Due.due("18: to him", x.fewest(0, 3), 0);
        x.lay(0);
        Due.due("18: it lies there", x.fewest(2, 3), 0);
        LadenEmpty y = Due.told(FORD + "carrier 0 0;carrier 0 0;load 0 0;load 0 5;");
        y.take(0, 1);
        Due.due("18: he has another one, it lies there", y.fewest(0, 0), STATE);
        Due.due("18: who has none, it lies there", y.fewest(1, 0), 0);
        Due.due("18: he cannot bring his own", y.fewest(0, 1), NONE);
    }

    // A plank lets none pass laden, a ferry none empty, a bridge he who is to go so, each of them while it is up.
    private static void fewestOrNone() {
        String[] sorts = {"bridge", "gate", "ford", "plank", "ferry"};
        int[] ahead = {NONE, NONE, 3, NONE, 3};
        int[] back = {3 + 3, 3 + 3, 2 + 3, NONE, 2 + 3};
        for (int i = 0; i < sorts.length; i++) {
            String way = "crossing " + sorts[i] + " 0 1 3;";
            LadenEmpty x = Due.told(way + "carrier 0 0;carrier 0 1;load 0 1;");
            Due.due("18: over a " + sorts[i], x.fewest(0, 0), ahead[i]);
            boolean asTold = sorts[i].equals("bridge");
            Due.due("18: to go laden over a " + sorts[i], x.fewest(1, 0), asTold ? 3 : ahead[i]);
            x.put(0, 0);
            Due.due("18: it is down, a " + sorts[i], x.fewest(1, 0), NONE);
            x.put(0, 1);
            Due.due("18: it is up, a " + sorts[i], x.fewest(1, 0), asTold ? 3 : ahead[i]);
            LadenEmpty y = Due.told(way + "crossing plank 1 0 2;carrier 1 0;load 0 1;");
            Due.due("18: he comes by a plank, a " + sorts[i], y.fewest(0, 0), back[i]);
        }
    }

    // From each TOWN to each: the way to the LOAD, and with it, by fords that stand in a row.
    private static void fewestFromTownToTown() {
        String ways = "crossing ford 0 1 1;crossing ford 1 2 1;crossing ford 2 3 1;crossing ford 3 4 1;crossing ford 4 5 1;";
        for (int town = 0; town < 6; town++) {
            for (int lies = 0; lies < 6; lies++) {
                for (int goal = 0; goal < 6; goal++) {
                    LadenEmpty x = Due.told(ways + "carrier " + town + " 0;load " + lies + " " + goal + ";");
                    int due = lies == goal ? 0 : Math.abs(town - lies) + Math.abs(lies - goal);
                    Due.due("18: from " + town + " by " + lies + " to " + goal, x.fewest(0, 0), due);
                }
            }
        }
    }

    private static void fewestByTheShorter() {
        LadenEmpty x = Due.told("crossing ford 0 1 4;crossing ford 1 2 5;crossing ford 0 2 9;carrier 0 0;load 0 2;");
        Due.due("18: as many by both", x.fewest(0, 0), 9);
        x.put(2, 0);
        Due.due("18: by two", x.fewest(0, 0), 9);
        x.put(2, 1);
        x.put(1, 0);
        Due.due("18: by one", x.fewest(0, 0), 9);
        LadenEmpty y = Due.told("crossing ford 0 1 4;crossing ford 1 2 4;crossing ford 0 2 9;carrier 0 0;load 0 2;");
        Due.due("18: one less by two", y.fewest(0, 0), 8);
        LadenEmpty z = Due.told("crossing ford 0 1 5;crossing ford 1 2 5;crossing ford 0 2 9;carrier 0 0;load 0 2;");
        Due.due("18: one less by one", z.fewest(0, 0), 9);
        LadenEmpty one = Due.told("crossing ford 0 1 1;carrier 0 0;load 0 1;");
        Due.due("18: the shortest", one.fewest(0, 0), 1);
        LadenEmpty nine = Due.told("crossing ford 0 1 9;carrier 0 0;load 0 1;");
        Due.due("18: the longest of one", nine.fewest(0, 0), 9);
    }

    // The longest answers that were found by trying lands, and what Model answers there.
    private static void farthest() {
        List<Model.Way> ways = List.of(way("bridge", 2, 5), way("bridge", 0, 5), way("gate", 3, 4),
            way("plank", 1, 0), way("ford", 2, 3), way("bridge", 1, 4));
        LadenEmpty x = Due.told(textOf(ways) + "carrier 5 2;load 4 1;");
        Model m = new Model(ways, new int[][] {{5, 2}}, new int[][] {{4, 1}});
        Due.due("18: eighteen times nine", x.fewest(0, 0), 162);
        Due.due("18: so does Model", m.fewest(0, 0), 162);
        Due.due("19: he is the one, far as it is", x.whom(0), 0);
        List<Model.Way> round = List.of(way("bridge", 2, 3), way("ford", 4, 1), way("bridge", 2, 5),
            way("plank", 3, 0), way("ford", 2, 5), way("bridge", 4, 0));
        LadenEmpty y = Due.told(textOf(round) + "carrier 1 38;");
        Model n = new Model(round, new int[][] {{1, 38}}, new int[0][]);
        Due.due("22: ten times nine", Math.max(y.right(0, 0), Math.max(y.right(0, 2), y.right(0, 5))), 90);
        for (int i = 0; i < 6; i++) {
            Due.due("22: as Model, " + i, y.right(0, i), n.right(0, i));
        }
        LadenEmpty z = Due.told("crossing bridge 0 1 9;crossing bridge 1 2 9;crossing bridge 2 3 9;crossing bridge 3 4 9;"
            + "crossing bridge 4 5 9;crossing bridge 5 0 1;carrier 0 32;load 0 5;");
        Due.due("20: five times nine", z.off(0, 5), 45);
        Due.due("20: by the sixth at once, laden", z.take(0, 0) + z.off(0, 5), 1);
    }

    private static Model.Way way(String sort, int a, int b) {
        return new Model.Way(sort, a, b, 9);
    }

    private static String textOf(List<Model.Way> ways) {
        StringBuilder text = new StringBuilder();
        for (Model.Way way : ways) {
            text.append("crossing ").append(way.sort()).append(' ').append(way.a()).append(' ').append(way.b())
                .append(' ').append(way.steps()).append(';');
        }
        return text.toString();
    }

    private static void whomOf() {
        LadenEmpty x = Due.told(ALL);
        Due.due("19: the first load", x.whom(0), 0);
        Due.due("19: the last load", x.whom(3), 2);
        Due.outside("19: load", 0, 3, BAD, x::whom);
        LadenEmpty y = Due.told(ONE);
        Due.due("19: the only load", y.whom(0), 0);
        Due.outside("19: load of one", 0, 0, BAD, y::whom);
    }

    // "whose FEWEST is least, of several the first"
    private static void whomOfSeveral() {
        String ways = "crossing ford 0 1 3;crossing ford 0 2 4;";
        int[] steps = {0, 3, 4};
        for (int a = 0; a < 3; a++) {
            for (int b = 0; b < 3; b++) {
                for (int c = 0; c < 3; c++) {
                    LadenEmpty x = Due.told(ways + "carrier " + a + " 0;carrier " + b + " 0;carrier " + c + " 0;load 0 1;");
                    int least = Math.min(steps[a], Math.min(steps[b], steps[c]));
                    int first = steps[a] == least ? 0 : steps[b] == least ? 1 : 2;
                    Due.due("19: of carriers in " + a + ", " + b + ", " + c, x.whom(0), first);
                }
            }
        }
        LadenEmpty y = Due.told(ways + "carrier 5 0;carrier 1 0;carrier 5 0;load 0 1;");
        Due.due("19: the only one who can", y.whom(0), 1);
        LadenEmpty z = Due.told(ways + "carrier 5 0;carrier 3 0;carrier 4 0;load 0 1;");
        Due.due("19: none who can", z.whom(0), NONE);
    }

    // "of CARRIERS who have no other LOAD"
    private static void whomOfThoseWhoCan() {
        LadenEmpty x = Due.told(FORD + "carrier 0 0;carrier 0 0;carrier 0 0;load 0 1;load 0 0;load 0 0;load 0 0;");
        for (int c = 0; c < 3; c++) {
            Due.due("19: others have " + c, x.whom(0), c);
            x.take(c, c + 1);
        }
        Due.due("19: all have another", x.whom(0), NONE);
        Due.due("19: of his own he can be", x.whom(2), 1);
        x.lay(1);
        Due.due("19: one has none any more", x.whom(0), 1);
    }

    // "(also if it is with one: he alone can be)"
    private static void whomWithOne() {
        LadenEmpty x = Due.told("crossing bridge 0 1 1;crossing ferry 0 1 5;carrier 0 1;carrier 0 0;load 0 1;");
        Due.due("19: the first, by the bridge", x.whom(0), 0);
        x.take(1, 0);
        Due.due("19: the other one has it, far as it is", x.whom(0), 1);
        x.put(1, 0);
        Due.due("19: he has it, and cannot", x.whom(0), NONE);
        x.hand(1, 0);
        Due.due("19: the first has it, and can", x.whom(0), 0);
        x.lay(0);
        Due.due("19: nobody has it, the first can", x.whom(0), 0);
    }

    private static void offOf() {
        LadenEmpty x = Due.told(ALL);
        Due.due("20: the first carrier, the first town", x.off(0, 0), 0);
        Due.due("20: the last carrier, the first town", x.off(2, 0), 1);
        Due.outside("20: carrier", 0, 2, BAD, c -> x.off(c, 0));
        Due.due("20: the last town", x.off(0, 5), NONE);
        Due.outside("20: town", 0, 5, BAD, town -> x.off(0, town));
        LadenEmpty y = Due.told("crossing ford 4 5 1;carrier 4 0;");
        Due.due("20: the last town, one step", y.off(0, 5), 1);
        Due.outside("20: town of such a land", 0, 5, BAD, town -> y.off(0, town));
        Due.outside("20: carrier of one", 0, 0, BAD, c -> y.off(c, 5));
    }

    private static void offHere() {
        for (int town = 0; town < 6; town++) {
            LadenEmpty x = Due.told(FORD + "carrier " + town + " 0;load " + town + " 0;");
            for (int laden = 0; laden < 2; laden++) {
                for (int goal = 0; goal < 6; goal++) {
                    boolean isNear = town < 2 && goal < 2;
                    Due.due("20: from " + town + " to " + goal + ", laden " + laden,
                        x.off(0, goal), town == goal ? 0 : isNear ? 1 : NONE);
                }
                Due.due("21: from " + town + ", laden " + laden, x.reach(0), town < 2 ? 3 : 1 << town);
                x.take(0, 0);
            }
        }
    }

    // "as laden, or empty, as he is": he takes and lays nothing
    private static void offAsHeIs() {
        LadenEmpty x = Due.told("crossing plank 0 1 2;crossing ferry 0 2 3;crossing bridge 0 3 4;crossing gate 0 4 5;"
            + "crossing ford 0 5 6;carrier 0 4;carrier 0 0;load 0 0;load 1 1;load 0 0;");
        int[] bridgeLaden = {0, 2, NONE, NONE, 5, 6};
        int[] bridgeEmpty = {0, 2, NONE, 4, 5, 6};
        int[] laden = {0, NONE, 3, 4, NONE, 6};
        for (int town = 0; town < 6; town++) {
            Due.due("20: empty to " + town, x.off(0, town), bridgeLaden[town]);
            Due.due("20: the other one empty to " + town, x.off(1, town), bridgeEmpty[town]);
        }
        Due.due("21: empty", x.reach(0), 1 + 2 + 16 + 32);
        Due.due("21: the other one empty", x.reach(1), 1 + 2 + 8 + 16 + 32);
        x.take(0, 0);
        for (int town = 0; town < 6; town++) {
            Due.due("20: laden to " + town, x.off(0, town), laden[town]);
        }
        Due.due("21: laden", x.reach(0), 1 + 4 + 8 + 32);
        x.feast();
        Due.due("20: laden by the gate", x.off(0, 4), 5);
        Due.due("20: laden, no bridge", x.off(0, 3), NONE);
        x.put(3, 0);
        Due.due("20: the gate is down", x.off(0, 4), NONE);
    }

    private static void reachOf() {
        LadenEmpty x = Due.told(ALL);
        Due.due("21: the first", x.reach(0), 3);
        Due.due("21: the last", x.reach(2), 3);
        Due.outside("21: carrier", 0, 2, BAD, x::reach);
        LadenEmpty y = Due.told(ONE);
        Due.due("21: the only one", y.reach(0), 3);
        Due.outside("21: carrier of one", 0, 0, BAD, y::reach);
    }

    // "TOWNS (bits) for which OFF is not NONE": his own always, at most all six
    private static void reachOfTowns() {
        LadenEmpty x = Due.told("crossing ford 0 1 9;crossing ford 1 2 9;crossing ford 2 3 9;crossing ford 3 4 9;"
            + "crossing ford 4 5 9;carrier 0 0;");
        Due.due("21: all six", x.reach(0), 63);
        Due.due("20: the farthest of them", x.off(0, 5), 45);
        for (int i = 4; i >= 0; i--) {
            x.put(i, 0);
            Due.due("21: up to " + i, x.reach(0), (2 << i) - 1);
        }
        Due.due("21: his own", x.reach(0), 1);
    }

    private static void rightOf() {
        LadenEmpty x = Due.told(ALL);
        Due.due("22: the first of three", x.right(0, 0), 2);
        Due.due("22: the last of three", x.right(2, 0), 2);
        Due.due("22: the last bridge", x.right(0, 4), 2);
        Due.due("22: a ford behind it", x.right(0, 5), BAD);
        Due.outside("22: carrier", 0, 2, BAD, c -> x.right(c, 0));
        Due.outside("22: crossing", 0, 5, BAD, i -> x.right(0, i));
        LadenEmpty y = Due.told(BRIDGE + "carrier 0 0;");
        Due.due("22: the only bridge", y.right(0, 0), NONE);
        Due.outside("22: crossing of one", 0, 0, BAD, i -> y.right(0, i));
        Due.outside("22: carrier of one", 0, 0, BAD, c -> y.right(c, 0));
    }

    // "BAD: a CROSSING that is no bridge, a gate, too; STATE: he has a LOAD"
    private static void rightRefused() {
        LadenEmpty x = Due.told("crossing bridge 0 1 1;crossing gate 0 1 1;crossing ford 0 1 1;crossing plank 0 1 1;"
            + "crossing ferry 0 1 1;carrier 0 0;carrier 0 0;load 0 0;");
        for (int has = 0; has < 2; has++) {
            Due.due("22: a bridge, has " + has, x.right(0, 0), has == 0 ? 2 : STATE);
            for (int i = 1; i < 6; i++) {
                Due.due("22: crossing " + i + ", has " + has, x.right(0, i), BAD);
            }
            Due.due("22: the other one, the first has " + has, x.right(1, 0), 2);
            x.take(0, 0);
        }
        x.lay(0);
        Due.due("22: he has none any more", x.right(0, 0), 2);
    }

    // He is to be where he is now: over the bridge once more or less than it takes by another way.
    private static void rightOrNone() {
        for (String sort : new String[] {"ford", "plank", "ferry"}) {
            LadenEmpty x = Due.told("crossing bridge 0 1 3;crossing " + sort + " 1 0 4;carrier 0 0;carrier 1 1;carrier 2 0;");
            Due.due("22: back by a " + sort, x.right(0, 0), 7);
            Due.due("22: there by a " + sort, x.right(1, 0), 7);
            Due.due("22: from elsewhere, " + sort, x.right(2, 0), NONE);
            x.put(1, 0);
            Due.due("22: it is down, a " + sort, x.right(0, 0), NONE);
            x.put(1, 1);
            x.put(0, 0);
            Due.due("22: the bridge is down, " + sort, x.right(0, 0), NONE);
            x.put(0, 1);
            Due.due("22: both are up, " + sort, x.right(0, 0), 7);
        }
        LadenEmpty y = Due.told("crossing bridge 0 1 1;carrier 0 0;");
        Due.due("22: there and back by itself, as ahead of it", y.right(0, 0), NONE);
        LadenEmpty z = Due.told("crossing bridge 1 2 1;crossing ford 1 2 1;crossing ford 0 1 9;carrier 0 0;");
        Due.due("22: to it, and back", z.right(0, 0), 9 + 1 + 1 + 9);
    }

    private static void rightNotByGates() {
        LadenEmpty x = Due.told("crossing bridge 0 1 1;crossing gate 1 0 1;crossing ford 1 0 9;carrier 0 0;");
        Due.due("22: not by the gate", x.right(0, 0), 10);
        x.put(2, 0);
        Due.due("22: by the gate alone", x.right(0, 0), NONE);
        x.feast();
        Due.due("22: nor when it is turned", x.right(0, 0), NONE);
        Due.due("20: by the gate he could", x.off(0, 1), NONE);
        x.feast();
        Due.due("20: by it, or the bridge", x.off(0, 1), 1);
    }

    // "over all other ones as now"
    private static void rightAllOthersAsNow() {
        LadenEmpty x = Due.told("crossing bridge 0 1 1;crossing bridge 1 0 1;carrier 0 0;");
        Due.due("22: the other one is turned, too", x.right(0, 0), NONE);
        LadenEmpty y = Due.told("crossing bridge 0 1 1;crossing bridge 1 0 1;crossing ford 1 0 5;carrier 0 0;");
        Due.due("22: by the ford, the other one as now", y.right(0, 0), 6);
        LadenEmpty z = Due.told("crossing bridge 0 1 1;crossing ford 0 1 5;crossing bridge 1 2 1;crossing bridge 2 0 1;"
            + "carrier 0 0;");
        Due.due("22: of three round", z.right(0, 0), 6);
        z.put(1, 0);
        Due.due("22: round alone", z.right(0, 0), NONE);
    }

    // Of six bridges side by side: one alone cannot be turned, whatever is next, until there is a ford.
    private static void rightOfAllSets() {
        for (int set = 0; set < 64; set++) {
            LadenEmpty x = Due.told(BRIDGE.repeat(6) + "carrier 0 " + set + ";");
            LadenEmpty y = Due.told(BRIDGE.repeat(5) + "crossing ford 0 1 9;carrier 0 " + (set & 31) + ";");
            for (int i = 0; i < 6; i++) {
                Due.due("22: bridge " + i + ", next " + set, x.right(0, i), NONE);
                Due.due("22: bridge " + i + ", next " + set + ", back by a ford", y.right(0, i), i < 5 ? 10 : BAD);
            }
        }
    }

    // Each answer behind each other one is as on an object that was asked nothing ahead.
    private static void oneLeavesNothingToTheNext() {
        String[] lands = {
            ALL,
            "crossing ford 2 1 1;crossing bridge 1 0 9;crossing ford 1 0 1;carrier 2 0;carrier 5 0;load 0 1;load 0 0;load 2 0;",
            "crossing bridge 0 1 9;crossing plank 1 0 1;crossing ferry 0 5 9;crossing gate 5 0 1;carrier 0 1;carrier 5 0;"
                + "load 0 1;load 5 0;load 0 5;"};
        for (String land : lands) {
            for (int first = 0; first < 26; first++) {
                LadenEmpty x = Due.told(land);
                for (int second = 0; second < 26; second++) {
                    asked(x, first);
                    Due.due("18 to 22: " + second + " behind " + first + " of " + land,
                        asked(x, second), asked(Due.told(land), second));
                }
            }
        }
    }

    private static int asked(LadenEmpty x, int number) {
        int carrier = number & 1;
        if (number < 6) {
            return x.fewest(carrier, number >> 1);
        }
        if (number < 18) {
            return x.off(carrier, number - 6 >> 1);
        }
        return number < 24 ? x.right(carrier, number - 18 >> 1) : x.reach(carrier);
    }

    private static void foretoldChangesNothing() {
        LadenEmpty x = Due.told("crossing bridge 0 1 1;crossing ford 1 0 2;crossing gate 0 1 1;carrier 0 0;carrier 1 1;"
            + "load 0 1;load 1 0;");
        x.go(0, 2);
        for (int i = 0; i < 3; i++) {
            Due.due("18: asked " + i + " times", x.fewest(0, 0), 1 + 1);
            Due.due("19: asked " + i + " times", x.whom(1), 0);
            Due.due("20: asked " + i + " times", x.off(0, 0), 1);
            Due.due("21: asked " + i + " times", x.reach(0), 3);
            Due.due("22: asked " + i + " times", x.right(0, 0), 3);
            Due.due("30: acts", x.count(4), 1);
            Due.due("30: steps", x.count(5), 1);
            Due.due("30: gates", x.count(6), 4);
            Due.due("16: where he is", x.carrier(0, 0), 1);
            Due.due("17: where it lies", x.load(0, 0), 0);
        }
        Due.due("15: the going", x.undo(), 0);
        Due.due("30: gates as told", x.count(6), 0);
    }

    private static LadenEmpty withRow(String text, int lane, int... items) {
        LadenEmpty x = Due.told(text);
        Due.row(x, 0, lane, items);
        return x;
    }

    private static void walkOfRows() {
        LadenEmpty x = Due.told(BRIDGE);
        x.row(0, INTS, 1);
        x.row(7, BYTES, 1);
        Due.due("23: the first row", x.walk(0, 1, 0), 1);
        Due.due("23: the last row", x.walk(7, 1, 0), 1);
        Due.outside("23: row", 0, 7, BAD, r -> x.walk(r, 1, 0));
        Due.due("23: a row that is missing", x.walk(1, 0, 0), NULL);
        x.row(1, SHORTS, 0);
        Due.due("23: a row that has none, no step", x.walk(1, 0, 0), 2);
        Due.due("23: a row that has none, one step", x.walk(1, 1, 0), PLACE);
        x.drop(7);
        Due.due("23: one that is missing now", x.walk(7, 1, 0), NULL);
    }

    // "n steps (0 to 40), ITEMS of a ROW from its beginning on"
    private static void walkOfSteps() {
        LadenEmpty x = Due.told(FORD + BRIDGE);
        for (int what = 0; what < 3; what++) {
            int asked = what;
            x.row(0, INTS, 40);
            int due = what == 0 ? 2 : what == 1 ? 0 : NONE;
            Due.due("23: no step, what " + what, x.walk(0, 0, what), due);
            Due.due("23: 40 steps, what " + what, x.walk(0, 40, what), due);
            Due.outside("23: n, what " + what + ",", 0, 40, BAD, n -> x.walk(0, n, asked));
            x.row(0, INTS, 39);
            Due.due("23: all 39, what " + what, x.walk(0, 39, what), due);
            Due.due("23: 40 of 39, what " + what, x.walk(0, 40, what), PLACE);
            Due.due("23: 41 of 39, what " + what, x.walk(0, 41, what), BAD);
            x.row(0, INTS, 1);
            Due.due("23: the only one, what " + what, x.walk(0, 1, what), due);
            Due.due("23: two of one, what " + what, x.walk(0, 2, what), PLACE);
        }
    }

    private static void walkOfWhat() {
        LadenEmpty x = withRow(BRIDGE, INTS, 1, 1);
        Due.due("23: FITS", x.walk(0, 1, 0), 1);
        Due.due("23: SURE", x.walk(0, 1, 1), 1);
        Due.due("23: WRONG", x.walk(0, 1, 2), NONE);
        Due.due("23: FITS of none", x.walk(0, 2, 0), 0);
        Due.due("23: SURE of none", x.walk(0, 2, 1), NONE);
        Due.due("23: WRONG of one", x.walk(0, 2, 2), 1);
        Due.outside("23: what", 0, 2, BAD, what -> x.walk(0, 1, what));
        Due.outside("23: what, ahead of NULL,", 0, 2, BAD, what -> x.walk(1, 1, what));
        Due.outside("23: what, ahead of PLACE,", 0, 2, BAD, what -> x.walk(0, 3, what));
    }

    // "STATE: no LAND (ahead of BAD); NULL; PLACE; then BAD: an ITEM that is none"
    private static void walkInOrder() {
        LadenEmpty x = new LadenEmpty();
        Due.row(x, 0, INTS, 99);
        Due.outside("23: no land, row", 0, 7, STATE, r -> x.walk(r, 0, 0));
        Due.outside("23: no land, n", 0, 40, STATE, n -> x.walk(0, n, 0));
        Due.outside("23: no land, what", 0, 2, STATE, what -> x.walk(0, 0, what));
        Due.due("23: no land, missing", x.walk(1, 0, 0), STATE);
        Due.due("23: no land, beyond", x.walk(0, 2, 0), STATE);
        Due.due("23: no land, no such item", x.walk(0, 1, 0), STATE);
        Due.tell(x, FORD);
        Due.due("23: BAD ahead of NULL", x.walk(1, 41, 0), BAD);
        Due.due("23: NULL ahead of PLACE", x.walk(1, 40, 0), NULL);
        Due.due("23: PLACE ahead of an item", x.walk(0, 2, 0), PLACE);
        Due.due("23: an item", x.walk(0, 1, 0), BAD);
        Due.due("23: none of the items", x.walk(0, 0, 0), 1);
        Due.due("31: behind an item that is none, as ahead of it", x.walk(0, 1, 0) + x.status(), BAD);
        x.walk(1, 0, 0);
        x.walk(0, 1, 0);
        Due.due("31: that too", x.status(), 1);
    }

    // "of each step twice the CROSSING, and 1": 0 to twice as many as there are, less 1
    private static void walkOfItems() {
        for (int n = 1; n <= 6; n++) {
            LadenEmpty x = withRow(FORD.repeat(n), INTS, 0, 0, 0);
            int most = 2 * n - 1;
            for (int item = 0; item <= most; item++) {
                x.set(0, 2, item);
                Due.due("23: item " + item + " of " + n, x.walk(0, 3, 0), 1);
            }
            Due.outside("23: item, of " + n + ",", 0, most, BAD, item -> x.set(0, 2, item) == item ? x.walk(0, 3, 0) : 0);
            Due.due("23: behind the steps it does not matter, " + n, x.walk(0, 2, 0), 1);
            Due.outside("23: item that is first, of " + n + ",", 0, most, BAD, item -> x.set(0, 0, item) == item ? x.walk(0, 3, 2) : 0);
        }
        LadenEmpty y = withRow(BRIDGE, INTS, 1, 1, 2);
        Due.due("23: a step that is wrong", y.walk(0, 2, 2), 1);
        Due.due("23: an item that is none, ahead of that", y.walk(0, 3, 2), BAD);
    }

    private static void walkOfLanes() {
        for (int lane = 0; lane < 3; lane++) {
            LadenEmpty x = withRow(BRIDGE.repeat(6), lane, 11, 0, 3, 10);
            Due.due("23: FITS, lane " + lane, x.walk(0, 4, 0), 8);
            Due.due("23: SURE, lane " + lane, x.walk(0, 4, 1), 32 + 2);
            x.set(0, 0, -1);
            Due.due("23: read with its sign, lane " + lane, x.walk(0, 1, 0), BAD);
            x.set(0, 0, 256);
            Due.due("23: its lowest bits, lane " + lane, x.walk(0, 1, 0), lane == BYTES ? 32 : BAD);
            x.set(0, 0, 65536);
            Due.due("23: its lowest bits, too, lane " + lane, x.walk(0, 1, 0), lane == INTS ? BAD : 32);
        }
    }

    // "the first step by which he went over a bridge, or gate, as he did the last time over that one"
    private static void walkWrong() {
        LadenEmpty x = withRow("crossing bridge 0 1 1;crossing gate 0 1 1;crossing ford 0 1 1;crossing plank 0 1 1;"
            + "crossing ferry 0 1 1;crossing bridge 2 3 1;", BYTES, 0, 0);
        for (int item = 0; item < 12; item++) {
            boolean counts = item < 4 || item > 9;
            x.set(0, 0, item);
            x.set(0, 1, item);
            Due.due("23: once " + item, x.walk(0, 1, 2), NONE);
            Due.due("23: twice " + item, x.walk(0, 2, 2), counts ? 1 : NONE);
            x.set(0, 1, item ^ 1);
            Due.due("23: by turns " + item, x.walk(0, 2, 2), NONE);
        }
        Due.row(x, 0, BYTES, 0, 11, 1, 10, 0, 11, 0, 11);
        Due.due("23: each by turns", x.walk(0, 6, 2), NONE);
        Due.due("23: the first of two", x.walk(0, 8, 2), 6);
        x.row(0, BYTES, 40);
        for (int i = 0; i < 40; i++) {
            x.set(0, i, 10 + i % 2);
        }
        Due.due("23: none of 40", x.walk(0, 40, 2), NONE);
        x.set(0, 39, 10);
        Due.due("23: none of the first 39", x.walk(0, 39, 2), NONE);
        Due.due("23: the last of 40", x.walk(0, 40, 2), 39);
        Due.due("23: it is of a set none had", x.walk(0, 40, 0), 0);
    }

    // "how many sets of bridges and gates there are": 1 to 64, or 0
    private static void walkFits() {
        LadenEmpty x = withRow(BRIDGE.repeat(5) + "crossing gate 0 1 1;", BYTES, 1, 2, 5, 6, 9, 10, 10);
        int[] fits = {64, 32, 16, 8, 4, 2, 1, 0};
        int[] sure = {0, 1, 1, 5, 5, 21, 21, NONE};
        for (int n = 0; n < 8; n++) {
            Due.due("23: FITS of six, " + n + " steps", x.walk(0, n, 0), fits[n]);
            Due.due("23: SURE of six, " + n + " steps", x.walk(0, n, 1), sure[n]);
            Due.due("23: WRONG of six, " + n + " steps", x.walk(0, n, 2), n == 7 ? 6 : NONE);
        }
        LadenEmpty y = withRow(FORD.repeat(2) + "crossing plank 0 1 1;crossing ferry 0 1 1;", BYTES, 1, 4, 5, 6);
        for (int n = 0; n < 5; n++) {
            Due.due("23: FITS of none, " + n + " steps", y.walk(0, n, 0), 1);
            Due.due("23: SURE of none, " + n + " steps", y.walk(0, n, 1), 0);
        }
    }

    // "bits of those that are in all of them": by how he went over it first
    private static void walkSure() {
        LadenEmpty x = withRow(BRIDGE.repeat(6), BYTES, 1, 3, 5, 7, 9, 11, 0);
        Due.due("23: all six", x.walk(0, 6, 1), 63);
        Due.due("23: all six, and one by turns", x.walk(0, 7, 1), 63);
        Due.row(x, 0, BYTES, 0, 2, 4, 6, 8, 10, 1);
        Due.due("23: none of six", x.walk(0, 6, 1), 0);
        Due.due("23: none of six, and one by turns", x.walk(0, 7, 1), 0);
        x.feast();
        x.put(0, 0);
        Due.due("23: whatever is next of them now", x.walk(0, 7, 1), 0);
        Due.due("23: nor is FITS another", x.walk(0, 5, 0), 2);
    }

    private static void imageOf() {
        LadenEmpty x = new LadenEmpty();
        Due.outside("24: no land, image", 0, 1, BAD, x::image);
        Due.due("24: no land, the first", x.image(0), STATE);
        Due.due("24: no land, the last", x.image(1), STATE);
        Due.tell(x, ONE);
        Due.outside("24: image", 0, 1, BAD, x::image);
        Due.due("25: none by these, the first", x.restore(0), STATE);
        Due.due("25: none by these, the last", x.restore(1), STATE);
        Due.due("24: the first", x.image(0), 1);
        Due.due("25: the last was not kept", x.restore(1), STATE);
        Due.due("24: the last", x.image(1), 1);
        Due.due("25: both were kept", x.restore(0) + x.restore(1), 2);
    }

    private static void restoreOf() {
        LadenEmpty x = new LadenEmpty();
        Due.outside("25: none was kept, image", 0, 1, BAD, x::restore);
        Due.due("25: no land, the first", x.restore(0), STATE);
        Due.due("25: no land, the last", x.restore(1), STATE);
        Due.tell(x, ONE);
        x.image(1);
        Due.outside("25: image", 0, 1, BAD, x::restore);
        Due.due("25: the first was not kept", x.restore(0), STATE);
        x.go(0, 0);
        Due.due("25: STATE changes nothing", x.restore(0) + x.count(4), STATE + 1);
        Due.due("25: the last was kept", x.restore(1), 1);
        Due.due("25: where he was", x.carrier(0, 0), 0);
        Due.due("25: again", x.restore(1), 1);
        Due.tell(x, "crossing");
        Due.due("25: behind a fault", x.restore(1), 1);
        Due.tell(x, BRIDGE.repeat(6));
        Due.due("25: of the land before", x.restore(1) + x.count(1), 2);
    }

    // An IMAGE is of the LAND as it was when it was kept; one kept anew stands in its place.
    private static void imageIsOfThen() {
        LadenEmpty x = Due.told("crossing bridge 0 1 2;crossing gate 1 0 3;carrier 0 0;carrier 1 0;load 1 0;load 0 0;");
        x.image(0);
        x.go(0, 0);
        x.take(0, 0);
        x.put(1, 0);
        x.feast();
        x.image(1);
        x.image(1);
        Due.due("24: images are no acts", x.count(4), 4);
        for (int k = 0; k < 4; k++) {
            int image = k & 1;
            Due.due("25: image " + image, x.restore(image), 1);
            Due.due("25: acts of " + image, x.count(4), 0);
            Due.due("25: none to undo of " + image, x.undo(), STATE);
            Due.due("25: town of " + image, x.carrier(0, 0), image);
            Due.due("25: load of " + image, x.carrier(0, 1), image == 1 ? 0 : NONE);
            Due.due("25: bridges of " + image, x.carrier(0, 2), 0);
            Due.due("25: the other's bridges of " + image, x.carrier(1, 2), image);
            Due.due("25: where it lies of " + image, x.load(0, 0), image == 1 ? NONE : 1);
            Due.due("25: gates of " + image, x.count(6), image == 1 ? 2 : 0);
            Due.due("25: steps of " + image, x.count(5), image == 1 ? 2 : 0);
            Due.due("25: what is up of " + image, x.put(1, 0), 1 - image);
            x.feast();
            x.take(1, 0);
        }
        x.restore(0);
        x.go(0, 1);
        x.image(1);
        x.go(0, 0);
        x.restore(1);
        Due.due("25: kept anew", x.carrier(0, 0) + x.count(5), 1 + 3);
        x.restore(0);
        Due.due("25: the other one as it was", x.carrier(0, 0) + x.count(5), 0);
    }
}
