/** The boundary cases of promises 9 to 17: the last call that is well, and the first that is not. */
final class EdgesOfActsTest {
    private static final int NONE = Due.NONE, BAD = Due.BAD, STATE = Due.STATE;
    private static final String[] SORTS = {"bridge", "gate", "ford", "plank", "ferry"};
    private static final String ONE = "crossing ford 0 1 1;carrier 0 0;load 0 1;";
    private static final String SIX_FORDS = "crossing ford 0 1 1;".repeat(6);
    private static final String ALL = SIX_FORDS + "carrier 0 0;carrier 0 0;carrier 0 0;"
        + "load 0 0;load 0 1;load 0 2;load 0 3;";
    private static final String NONE_BUT_A_FORD = "crossing ford 0 1 1;";

    public static void main(String[] args) {
        withoutLand();
        withoutCarriersAndLoads();
        goOfCarriers();
        goOverCrossings();
        goFromAnEnd();
        goAsHeMay();
        goByTurns();
        goTheStepsAdded();
        badAheadOfState();
        takeOf();
        takeWhereItLies();
        takeOneAtMost();
        layOf();
        handOf();
        handAsItMay();
        feastOf();
        putOf();
        putWhatIsSo();
        undoOfNone();
        undoOf24();
        undoOf25();
        undoOfMore();
        undoIsNoAct();
        refusedAreNoActs();
        undoOfEach();
        noActBehindLandOrImage();
        carrierOf();
        loadOf();
        Due.end();
    }

    // "BAD: there is no such thing"; feast, undo: "STATE: no LAND", "STATE: none"
    private static void withoutLand() {
        LadenEmpty x = new LadenEmpty();
        Due.due("9: no land", x.go(0, 0), BAD);
        Due.due("10: no land", x.take(0, 0), BAD);
        Due.due("11: no land", x.lay(0), BAD);
        Due.due("12: no land", x.hand(0, 1), BAD);
        Due.due("13: no land", x.feast(), STATE);
        Due.due("14: no land", x.put(0, 1), BAD);
        Due.due("15: no land", x.undo(), STATE);
        Due.due("16: no land", x.carrier(0, 0), BAD);
        Due.due("17: no land", x.load(0, 0), BAD);
        Due.due("30: no act of these", x.count(4), 0);
        Due.tell(x, ONE + "carrier");
        Due.due("13: a land that has a fault", x.feast(), STATE);
        Due.tell(x, NONE_BUT_A_FORD);
        Due.due("13: a land", x.feast(), 1);
        Due.due("14: a land", x.put(0, 1), 1);
        Due.due("15: a land", x.undo(), 1);
    }

    private static void withoutCarriersAndLoads() {
        LadenEmpty x = Due.told(NONE_BUT_A_FORD);
        Due.due("9: no carrier", x.go(0, 0), BAD);
        Due.due("10: neither", x.take(0, 0), BAD);
        Due.due("11: no carrier", x.lay(0), BAD);
        Due.due("12: no carrier", x.hand(0, 1), BAD);
        Due.due("16: no carrier", x.carrier(0, 0), BAD);
        Due.due("17: no load", x.load(0, 0), BAD);
        Due.tell(x, NONE_BUT_A_FORD + "carrier 0 0;");
        Due.due("10: no load", x.take(0, 0), BAD);
        Due.due("12: no other one", x.hand(0, 1), BAD);
        Due.due("11: a carrier", x.lay(0), STATE);
        Due.due("9: a carrier", x.go(0, 0), 1);
        Due.tell(x, NONE_BUT_A_FORD + "load 0 0;");
        Due.due("10: no carrier", x.take(0, 0), BAD);
        Due.due("17: a load", x.load(0, 0), 0);
        Due.due("9: none left of the land before", x.go(0, 0), BAD);
    }

    private static void goOfCarriers() {
        LadenEmpty x = Due.told(ONE);
        Due.due("9: the only one", x.go(0, 0), 1);
        Due.outside("9: carrier of one", 0, 0, BAD, c -> x.go(c, 0));
        LadenEmpty y = Due.told(ALL);
        Due.due("9: the first of three", y.go(0, 0), 1);
        Due.due("9: the last of three", y.go(2, 0), 1);
        Due.outside("9: carrier of three", 0, 2, BAD, c -> y.go(c, 0));
        Due.due("30: two acts", y.count(4), 2);
    }

    private static void goOverCrossings() {
        LadenEmpty x = Due.told(ONE);
        Due.due("9: the only crossing", x.go(0, 0), 1);
        Due.outside("9: crossing of one", 0, 0, BAD, i -> x.go(0, i));
        LadenEmpty y = Due.told(ALL);
        Due.due("9: the first of six", y.go(0, 0), 1);
        Due.due("9: the last of six", y.go(0, 5), 0);
        Due.outside("9: crossing of six", 0, 5, BAD, i -> y.go(0, i));
        Due.due("30: two acts", y.count(4), 2);
    }

    // "a CROSSING .. that has an end in his TOWN"; "(to its other end)"
    private static void goFromAnEnd() {
        for (String sort : SORTS) {
            for (int town = 0; town < 6; town++) {
                LadenEmpty x = Due.told("crossing " + sort + " 2 5 1;carrier " + town + " 0;load " + town + " 0;");
                if (sort.equals("ferry")) {
                    x.take(0, 0);
                }
                boolean isEnd = town == 2 || town == 5;
                Due.due("16: at " + town + ", " + sort, x.carrier(0, 3), isEnd ? 1 : 0);
                Due.due("9: from " + town + ", " + sort, x.go(0, 0), isEnd ? 7 - town : STATE);
                Due.due("16: then, from " + town + ", " + sort, x.carrier(0, 0), isEnd ? 7 - town : town);
            }
        }
    }

    // "a ford as he is; a plank empty, a ferry laden; a bridge laden, if he is to go laden over it next, else empty"
    private static void goAsHeMay() {
        for (String sort : SORTS) {
            for (int laden = 0; laden < 2; laden++) {
                for (int next = 0; next < 2; next++) {
                    LadenEmpty x = mayOrNot(sort, laden, next);
                    boolean turns = sort.equals("bridge") || sort.equals("gate");
                    boolean may = turns ? laden == next
                        : sort.equals("ford") || sort.equals(laden == 1 ? "ferry" : "plank");
                    String how = sort + ", laden " + laden + ", next " + next;
                    Due.due("16: he may, " + how, x.carrier(0, 3), may ? 1 : 0);
                    Due.due("9: " + how, x.go(0, 0), may ? 1 : STATE);
                    Due.due("9: steps, " + how, x.count(5), may ? 7 : 0);
                    int then = may ? 1 - next : next;
                    Due.due("16: bridges then, " + how, x.carrier(0, 2), sort.equals("bridge") ? then : 0);
                    Due.due("30: gates then, " + how, x.count(6), sort.equals("gate") ? then : 0);
                    LadenEmpty y = mayOrNot(sort, laden, next);
                    y.put(0, 0);
                    Due.due("16: down, " + how, y.carrier(0, 3), 0);
                    Due.due("9: down, " + how, y.go(0, 0), STATE);
                    y.put(0, 1);
                    Due.due("9: up anew, " + how, y.go(0, 0), may ? 1 : STATE);
                }
            }
        }
    }

    private static LadenEmpty mayOrNot(String sort, int laden, int next) {
        LadenEmpty x = Due.told("crossing " + sort + " 0 1 7;carrier 0 0;load 0 0;");
        if (next == 1) {
            x.feast();
        }
        if (laden == 1) {
            x.take(0, 0);
        }
        return x;
    }

    // "he is to go the other way over it then": over that one, he, and none else
    private static void goByTurns() {
        for (int i = 0; i < 6; i++) {
            LadenEmpty x = Due.told("crossing bridge 0 1 1;".repeat(6) + "carrier 0 0;carrier 0 0;carrier 0 63;");
            Due.due("9: empty over " + i, x.go(1, i), 1);
            Due.due("9: not empty back over " + i, x.go(1, i), STATE);
            Due.due("16: the other way over " + i, x.carrier(1, 2), 1 << i);
            Due.due("16: over all others back, " + i, x.carrier(1, 3), 63 & ~(1 << i));
            Due.due("16: the one ahead, " + i, x.carrier(0, 2), 0);
            Due.due("16: the one behind, " + i, x.carrier(2, 2), 63);
            LadenEmpty y = Due.told("crossing gate 0 1 1;".repeat(6) + "carrier 0 0;carrier 0 0;carrier 0 63;");
            Due.due("9: empty over gate " + i, y.go(1, i), 1);
            Due.due("9: not empty back over gate " + i, y.go(1, i), STATE);
            Due.due("9: nor another one, gate " + i, y.go(0, i), STATE);
            Due.due("30: of all together, gate " + i, y.count(6), 1 << i);
            Due.due("16: another one over all others, gate " + i, y.carrier(2, 3), 63 & ~(1 << i));
            Due.due("16: no bridges, gate " + i, y.carrier(1, 2), 0);
        }
    }

    private static void goTheStepsAdded() {
        LadenEmpty x = Due.told("crossing ford 0 1 9;crossing ford 0 1 1;carrier 0 0;");
        Due.due("30: none gone", x.count(5), 0);
        for (int i = 1; i <= 200; i++) {
            x.go(0, 0);
            Due.due("30: " + i + " times 9", x.count(5), 9 * i);
        }
        x.go(0, 1);
        Due.due("30: and 1", x.count(5), 1801);
    }

    // "the first of these that fits": BAD ahead of STATE
    private static void badAheadOfState() {
        LadenEmpty x = Due.told("crossing ford 2 3 1;carrier 0 0;carrier 1 0;load 4 0;");
        Due.due("9: he may not", x.go(0, 0), STATE);
        Due.due("9: there is none", x.go(0, 1), BAD);
        Due.due("10: not there", x.take(0, 0), STATE);
        Due.due("10: no such load", x.take(0, 1), BAD);
        Due.due("12: he has none", x.hand(0, 1), STATE);
        Due.due("12: alike, and he has none", x.hand(0, 0), BAD);
        Due.due("12: no such one, and he has none", x.hand(0, 2), BAD);
        Due.due("12: neither is there", x.hand(2, 2), BAD);
    }

    private static void takeOf() {
        LadenEmpty x = Due.told(ALL);
        Due.outside("10: carrier", 0, 2, BAD, c -> x.take(c, 0));
        Due.outside("10: load", 0, 3, BAD, l -> x.take(0, l));
        Due.due("10: the first load", x.take(0, 0), 0);
        Due.due("10: the last load", x.take(2, 3), 3);
        Due.outside("10: load, he has one,", 0, 3, BAD, l -> x.take(0, l));
        LadenEmpty y = Due.told(ONE);
        Due.outside("10: carrier of one", 0, 0, BAD, c -> y.take(c, 0));
        Due.outside("10: load of one", 0, 0, BAD, l -> y.take(0, l));
        Due.due("10: the only one", y.take(0, 0), 0);
    }

    // "STATE: .. it does not lie there"
    private static void takeWhereItLies() {
        for (int town = 0; town < 6; town++) {
            for (int lies = 0; lies < 6; lies++) {
                LadenEmpty x = Due.told("crossing ford 0 1 1;carrier " + town + " 0;load " + lies + " 0;");
                String what = "10: in " + town + ", it lies in " + lies;
                Due.due(what, x.take(0, 0), town == lies ? 0 : STATE);
                Due.due(what + ", 17", x.load(0, 0), town == lies ? NONE : lies);
            }
        }
        LadenEmpty y = Due.told("crossing ford 0 1 1;carrier 0 0;carrier 0 0;load 0 1;");
        y.take(0, 0);
        Due.due("10: it does not lie, one has it", y.take(1, 0), STATE);
        y.lay(0);
        Due.due("10: it lies there now", y.take(1, 0), 0);
    }

    // "A CARRIER has one LOAD at most"
    private static void takeOneAtMost() {
        LadenEmpty x = Due.told(ALL);
        Due.due("10: one", x.take(0, 1), 1);
        for (int l = 0; l < 4; l++) {
            Due.due("10: a second one, " + l, x.take(0, l), STATE);
        }
        Due.due("16: the first one yet", x.carrier(0, 1), 1);
        Due.due("17: the others lie", x.load(0, 0) + x.load(2, 0) + x.load(3, 0), 0);
        x.lay(0);
        Due.due("10: another one then", x.take(0, 3), 3);
    }

    private static void layOf() {
        LadenEmpty x = Due.told(ALL);
        Due.outside("11: carrier", 0, 2, BAD, x::lay);
        for (int c = 0; c < 3; c++) {
            Due.due("11: he has none, " + c, x.lay(c), STATE);
            x.take(c, 3 - c);
            Due.due("11: he has one, " + c, x.lay(c), 3 - c);
            Due.due("11: he has none any more, " + c, x.lay(c), STATE);
        }
        x.take(0, 0);
        x.go(0, 0);
        Due.due("11: where he is then", x.lay(0), 0);
        Due.due("17: it lies there", x.load(0, 0), 1);
        Due.due("17: nobody has it", x.load(0, 2), NONE);
    }

    private static void handOf() {
        LadenEmpty x = Due.told(ALL);
        x.take(0, 0);
        Due.outside("12: carrier", 0, 2, BAD, c -> x.hand(c, 0));
        Due.outside("12: to", 0, 2, BAD, to -> x.hand(0, to));
        Due.due("12: alike", x.hand(0, 0), BAD);
        Due.due("12: alike, who have none", x.hand(1, 1), BAD);
        Due.due("12: to the last", x.hand(0, 2), 0);
        Due.due("12: to the first", x.hand(2, 0), 0);
        Due.due("12: four acts less the refused ones", x.count(4), 3);
    }

    // "STATE: he has none, the other one has one, or is in another TOWN"
    private static void handAsItMay() {
        for (int has = 0; has < 2; has++) {
            for (int otherHas = 0; otherHas < 2; otherHas++) {
                for (int isAway = 0; isAway < 2; isAway++) {
                    LadenEmpty x = Due.told(ALL);
                    if (has == 1) {
                        x.take(0, 2);
                    }
                    if (otherHas == 1) {
                        x.take(1, 3);
                    }
                    if (isAway == 1) {
                        x.go(1, 0);
                    }
                    boolean may = has == 1 && otherHas == 0 && isAway == 0;
                    String what = "12: has " + has + ", the other one " + otherHas + ", away " + isAway;
                    Due.due(what, x.hand(0, 1), may ? 2 : STATE);
                    Due.due(what + ", his load", x.carrier(0, 1), has == 1 && !may ? 2 : NONE);
                    Due.due(what + ", the other's load", x.carrier(1, 1), otherHas == 1 ? 3 : may ? 2 : NONE);
                    Due.due(what + ", who has it", x.load(2, 2), has == 0 ? NONE : may ? 1 : 0);
                    Due.due(what + ", where it lies", x.load(2, 0), has == 0 ? 0 : NONE);
                }
            }
        }
    }

    // "what is next of each CARRIER, and of gates, is the other way of all CROSSINGS"
    private static void feastOf() {
        LadenEmpty x = Due.told("crossing bridge 0 1 1;".repeat(6) + "carrier 0 0;carrier 0 63;carrier 0 21;");
        Due.due("13: a feast", x.feast(), 1);
        Due.due("13: none of six", x.carrier(0, 2), 63);
        Due.due("13: all six", x.carrier(1, 2), 0);
        Due.due("13: some of six", x.carrier(2, 2), 42);
        Due.due("13: no gates", x.count(6), 0);
        Due.due("13: again", x.feast(), 1);
        Due.due("13: as ahead of both", x.carrier(2, 2), 21);
        LadenEmpty y = Due.told("crossing gate 0 1 1;".repeat(6) + "carrier 0 63;");
        y.feast();
        Due.due("13: gates", y.count(6), 63);
        Due.due("13: no bridges", y.carrier(0, 2), 0);
        LadenEmpty z = Due.told("crossing ford 0 1 1;crossing plank 0 1 1;crossing ferry 0 1 1;carrier 0 7;");
        Due.due("13: nothing becomes another", z.feast(), 1);
        Due.due("13: no bridge, no gate", z.carrier(0, 2) + z.count(6), 0);
        Due.due("13: he may as ahead of it", z.carrier(0, 3), 3);
        Due.due("13: an act, too", z.undo(), 0);
    }

    private static void putOf() {
        LadenEmpty x = Due.told(ALL);
        Due.outside("14: crossing", 0, 5, BAD, i -> x.put(i, 0));
        Due.outside("14: is", 0, 1, BAD, is -> x.put(0, is));
        Due.outside("14: crossing, up,", 0, 5, BAD, i -> x.put(i, 1));
        Due.due("14: no act of these", x.count(4), 0);
        for (int i = 0; i < 6; i++) {
            Due.due("14: was up, " + i, x.put(i, 0), 1);
            Due.due("16: the others are up, " + i, x.carrier(0, 3), 63 & ~((2 << i) - 1));
        }
        for (int i = 0; i < 6; i++) {
            Due.due("14: was down, " + i, x.put(i, 1), 0);
            Due.due("16: up anew, " + i, x.carrier(0, 3), (2 << i) - 1);
        }
        LadenEmpty y = Due.told(ONE);
        Due.outside("14: crossing of one", 0, 0, BAD, i -> y.put(i, 0));
        Due.due("14: the only one", y.put(0, 0), 1);
    }

    // "how it was"; an ACT also where nothing becomes another
    private static void putWhatIsSo() {
        LadenEmpty x = Due.told(ONE);
        Due.due("14: up, it is up", x.put(0, 1), 1);
        Due.due("14: down, it is up", x.put(0, 0), 1);
        Due.due("14: down, it is down", x.put(0, 0), 0);
        Due.due("14: up, it is down", x.put(0, 1), 0);
        Due.due("30: four acts", x.count(4), 4);
        Due.due("15: to down", x.undo(), 3);
        Due.due("16: down", x.carrier(0, 3), 0);
        Due.due("15: to down, which it was", x.undo(), 2);
        Due.due("16: down yet", x.carrier(0, 3), 0);
        Due.due("15: to up", x.undo(), 1);
        Due.due("16: up", x.carrier(0, 3), 1);
        Due.due("15: to up, which it was", x.undo(), 0);
        Due.due("16: up yet", x.carrier(0, 3), 1);
    }

    private static void undoOfNone() {
        LadenEmpty x = Due.told(ONE);
        Due.due("15: none", x.undo(), STATE);
        x.go(0, 0);
        Due.due("15: one", x.undo(), 0);
        Due.due("15: none any more", x.undo(), STATE);
        Due.due("15: nor then", x.undo(), STATE);
        x.go(0, 0);
        Due.due("30: one anew", x.count(4), 1);
        Due.due("15: one anew", x.undo(), 0);
    }

    private static LadenEmpty gone(int times) {
        LadenEmpty x = Due.told(ONE);
        for (int i = 0; i < times; i++) {
            x.go(0, 0);
            Due.due("30: acts behind " + (i + 1), x.count(4), Math.min(i + 1, 24));
        }
        return x;
    }

    // "24 at most are kept"
    private static void undoOf24() {
        LadenEmpty x = gone(24);
        for (int left = 23; left >= 0; left--) {
            Due.due("15: of 24", x.undo(), left);
            Due.due("15: steps of 24", x.count(5), left);
        }
        Due.due("15: all 24 are undone", x.undo(), STATE);
        Due.due("15: as told", x.carrier(0, 0), 0);
    }

    // "of more the oldest is forgotten"
    private static void undoOf25() {
        LadenEmpty x = gone(25);
        for (int left = 23; left >= 0; left--) {
            Due.due("15: of 25", x.undo(), left);
            Due.due("15: steps of 25", x.count(5), left + 1);
        }
        Due.due("15: the first of 25 stays", x.undo(), STATE);
        Due.due("15: where that one led", x.carrier(0, 0), 1);
    }

    // The room of 24 goes round, also where some were undone between.
    private static void undoOfMore() {
        for (int more = 26; more <= 75; more += 7) {
            LadenEmpty x = gone(more);
            for (int k = 0; k < 10; k++) {
                x.undo();
            }
            for (int k = 0; k < 5; k++) {
                x.feast();
            }
            for (int left = 18; left >= 0; left--) {
                Due.due("15: of " + more, x.undo(), left);
            }
            Due.due("15: no more of " + more, x.undo(), STATE);
            Due.due("15: steps of " + more, x.count(5), more - 24);
        }
    }

    private static void undoIsNoAct() {
        LadenEmpty x = gone(3);
        Due.due("15: the third", x.undo(), 2);
        Due.due("15: the second", x.undo(), 1);
        Due.due("30: two less", x.count(4), 1);
        x.take(0, 0);
        Due.due("15: not there, no act", x.undo(), 0);
        Due.due("16: where he was told", x.carrier(0, 0), 0);
    }

    private static void refusedAreNoActs() {
        LadenEmpty x = Due.told("crossing ford 0 1 1;crossing ferry 0 1 1;carrier 0 0;carrier 1 0;load 0 0;load 2 0;");
        x.take(0, 0);
        x.go(0, 1);
        x.lay(1);
        x.hand(1, 0);
        x.take(0, 1);
        x.go(1, 1);
        x.go(0, 2);
        x.put(0, 2);
        x.put(2, 0);
        x.hand(0, 0);
        Due.due("30: two acts", x.count(4), 2);
        Due.due("15: the going", x.undo(), 1);
        Due.due("16: back", x.carrier(0, 0), 0);
        Due.due("15: the taking", x.undo(), 0);
        Due.due("17: it lies", x.load(0, 0), 0);
    }

    // "each can be undone, the latest first"
    private static void undoOfEach() {
        LadenEmpty x = Due.told("crossing bridge 0 1 4;crossing gate 0 1 5;carrier 0 0;carrier 1 1;load 1 0;");
        x.put(1, 1);
        x.go(0, 1);
        x.take(0, 0);
        x.hand(0, 1);
        x.go(1, 0);
        x.lay(1);
        x.put(0, 0);
        x.feast();
        // Behind each undo: where it lies, who has it, his town, the bridges of both, gates, steps, what is up.
        int[][] due = {
            {0, NONE, 1, 0, 0, 2, 9, 0}, {0, NONE, 1, 0, 0, 2, 9, 1}, {NONE, 1, 1, 0, 0, 2, 9, 1},
            {NONE, 1, 1, 0, 1, 2, 5, 1}, {NONE, 0, 1, 0, 1, 2, 5, 1}, {1, NONE, 1, 0, 1, 2, 5, 1},
            {1, NONE, 0, 0, 1, 0, 0, 1}, {1, NONE, 0, 0, 1, 0, 0, 1}};
        for (int i = 0; i < 8; i++) {
            Due.due("15: acts left, " + i, x.undo(), 7 - i);
            Due.due("15: where it lies, " + i, x.load(0, 0), due[i][0]);
            Due.due("15: who has it, " + i, x.load(0, 2), due[i][1]);
            Due.due("15: his town, " + i, x.carrier(0, 0), due[i][2]);
            Due.due("15: his bridges, " + i, x.carrier(0, 2), due[i][3]);
            Due.due("15: the other's bridges, " + i, x.carrier(1, 2), due[i][4]);
            Due.due("15: gates, " + i, x.count(6), due[i][5]);
            Due.due("15: steps, " + i, x.count(5), due[i][6]);
            Due.due("15: what is up, " + i, x.put(0, 1), due[i][7]);
            x.undo();
        }
        Due.due("15: none left", x.undo(), STATE);
    }

    private static void noActBehindLandOrImage() {
        LadenEmpty x = gone(24);
        x.image(0);
        Due.due("15: with an image yet", x.undo(), 23);
        x.restore(0);
        Due.due("15: behind an image", x.undo(), STATE);
        x.go(0, 0);
        Due.due("15: one behind an image", x.undo(), 0);
        Due.due("15: none of those ahead", x.undo(), STATE);
        x.go(0, 0);
        Due.tell(x, ONE);
        Due.due("15: behind a land", x.undo(), STATE);
        x.go(0, 0);
        Due.due("15: one behind a land", x.undo(), 0);
        Due.due("15: none of the land before", x.undo(), STATE);
    }

    private static void carrierOf() {
        LadenEmpty x = Due.told("crossing bridge 0 5 1;crossing ford 5 4 1;carrier 0 0;carrier 0 1;carrier 5 1;load 5 0;");
        x.take(2, 0);
        int[][] due = {{0, NONE, 0, 1}, {0, NONE, 1, 0}, {5, 0, 1, 3}};
        for (int c = 0; c < 3; c++) {
            int carrier = c;
            for (int what = 0; what < 4; what++) {
                Due.due("16: carrier(" + c + ", " + what + ")", x.carrier(c, what), due[c][what]);
            }
            Due.outside("16: what of " + c, 0, 3, BAD, what -> x.carrier(carrier, what));
        }
        for (int what = 0; what < 4; what++) {
            int asked = what;
            Due.outside("16: what " + what + " of carrier", 0, 2, BAD, c -> x.carrier(c, asked));
        }
        LadenEmpty y = Due.told(ONE);
        Due.due("16: the only one", y.carrier(0, 0), 0);
        Due.outside("16: carrier of one", 0, 0, BAD, c -> y.carrier(c, 0));
    }

    private static void loadOf() {
        LadenEmpty x = Due.told("crossing ford 0 1 1;carrier 0 0;carrier 4 0;load 0 5;load 1 4;load 5 0;load 4 1;");
        x.take(1, 3);
        int[][] due = {{0, 5, NONE}, {1, 4, NONE}, {5, 0, NONE}, {NONE, 1, 1}};
        for (int l = 0; l < 4; l++) {
            int load = l;
            for (int what = 0; what < 3; what++) {
                Due.due("17: load(" + l + ", " + what + ")", x.load(l, what), due[l][what]);
            }
            Due.outside("17: what of " + l, 0, 2, BAD, what -> x.load(load, what));
        }
        for (int what = 0; what < 3; what++) {
            int asked = what;
            Due.outside("17: what " + what + " of load", 0, 3, BAD, l -> x.load(l, asked));
        }
        LadenEmpty y = Due.told(ONE);
        Due.due("17: the only one", y.load(0, 1), 1);
        Due.outside("17: load of one", 0, 0, BAD, l -> y.load(l, 0));
    }
}
