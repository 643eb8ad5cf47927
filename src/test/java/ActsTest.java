/** Promises 9 to 17: acts, what they change, how they are undone. */
final class ActsTest {
    private static final int NONE = Due.NONE, BAD = Due.BAD, STATE = Due.STATE;

    public static void main(String[] args) {
        goByKinds();
        goByTurns();
        gatesOfAll();
        takeLayHand();
        feast();
        put();
        undo();
        carrier();
        load();
        Due.end();
    }

    private static void goByKinds() {
        LadenEmpty x = Due.told("crossing ford 0 1 9;crossing plank 0 1 2;crossing ferry 0 1 3;"
            + "crossing ford 2 3 1;carrier 0 15;load 0 5;load 1 5;");
        Due.due("9: carrier 1", x.go(1, 0), BAD);
        Due.due("9: carrier -1", x.go(-1, 0), BAD);
        Due.due("9: crossing 4", x.go(0, 4), BAD);
        Due.due("9: crossing -1", x.go(0, -1), BAD);
        Due.due("9: not in his town", x.go(0, 3), STATE);
        Due.due("9: a ferry empty", x.go(0, 2), STATE);
        Due.due("9: a plank empty", x.go(0, 1), 1);
        Due.due("9: a ford empty, back", x.go(0, 0), 0);
        x.take(0, 0);
        Due.due("9: a plank laden", x.go(0, 1), STATE);
        Due.due("9: a ferry laden", x.go(0, 2), 1);
        Due.due("9: a ford laden", x.go(0, 0), 0);
        Due.due("9: steps", x.count(5), 2 + 9 + 3 + 9);
        Due.due("9: the refused are no acts", x.count(4), 5);
        x.put(0, 0);
        Due.due("9: taken down", x.go(0, 0), STATE);
        Due.due("16: over what he may", x.carrier(0, 3), 4);
    }

    private static void goByTurns() {
        LadenEmpty x = Due.told("crossing bridge 0 1 4;crossing ford 0 1 1;carrier 0 1;carrier 0 0;load 0 1;");
        Due.due("9: empty where laden is next", x.go(0, 0), STATE);
        x.take(0, 0);
        Due.due("9: laden where laden is next", x.go(0, 0), 1);
        Due.due("16: empty is next", x.carrier(0, 2), 0);
        Due.due("9: laden again", x.go(0, 0), STATE);
        x.lay(0);
        Due.due("9: empty back", x.go(0, 0), 0);
        Due.due("16: laden is next", x.carrier(0, 2), 1);
        Due.due("16: another one's is his own", x.carrier(1, 2), 0);
        Due.due("9: the other one", x.go(1, 0), 1);
        Due.due("16: his own", x.carrier(1, 2), 1);
        Due.due("9: no ford turns", x.go(1, 1), 0);
        Due.due("16: his own yet", x.carrier(1, 2), 1);
    }

    private static void gatesOfAll() {
        LadenEmpty x = Due.told("crossing gate 0 1 2;crossing bridge 0 1 1;carrier 0 3;carrier 0 3;load 0 1;");
        Due.due("9: a gate is empty at first", x.go(0, 0), 1);
        Due.due("30: laden is next of all", x.count(6), 1);
        Due.due("16: no bridge", x.carrier(0, 2), 2);
        Due.due("9: the other one empty", x.go(1, 0), STATE);
        x.take(1, 0);
        Due.due("16: he may laden", x.carrier(1, 3), 3);
        Due.due("9: the other one laden", x.go(1, 0), 1);
        Due.due("30: empty is next of all", x.count(6), 0);
        Due.due("9: the first one empty back", x.go(0, 0), 0);
    }

    private static void takeLayHand() {
        LadenEmpty x = Due.told("crossing ford 0 1 1;carrier 0 0;carrier 1 0;carrier 0 0;load 0 3;load 1 4;load 0 5;");
        Due.due("10: carrier 3", x.take(3, 0), BAD);
        Due.due("10: load 3", x.take(0, 3), BAD);
        Due.due("10: load -1", x.take(0, -1), BAD);
        Due.due("10: not there", x.take(0, 1), STATE);
        Due.due("11: carrier -1", x.lay(-1), BAD);
        Due.due("11: carrier 3", x.lay(3), BAD);
        Due.due("11: he has none", x.lay(0), STATE);
        Due.due("12: he has none", x.hand(0, 2), STATE);
        Due.due("10: taken", x.take(0, 2), 2);
        Due.due("10: he has one", x.take(0, 0), STATE);
        Due.due("10: another one has it", x.take(2, 2), STATE);
        Due.due("12: in another town", x.hand(0, 1), STATE);
        Due.due("12: alike", x.hand(0, 0), BAD);
        Due.due("12: to 3", x.hand(0, 3), BAD);
        Due.due("12: to -1", x.hand(0, -1), BAD);
        Due.due("12: from 3", x.hand(3, 0), BAD);
        Due.due("12: handed", x.hand(0, 2), 2);
        Due.due("16: he has none", x.carrier(0, 1), NONE);
        Due.due("16: the other one has it", x.carrier(2, 1), 2);
        Due.due("17: who has it", x.load(2, 2), 2);
        x.take(0, 0);
        Due.due("12: the other one has one", x.hand(0, 2), STATE);
        x.go(2, 0);
        Due.due("11: laid", x.lay(2), 2);
        Due.due("17: where it lies", x.load(2, 0), 1);
        Due.due("10: taken by one who is there", x.take(1, 2), 2);
        Due.due("4 acts and 2 more", x.count(4), 6);
    }

    private static void feast() {
        LadenEmpty x = Due.told("crossing bridge 0 1 1;crossing ford 0 1 1;crossing gate 0 1 1;"
            + "crossing bridge 1 2 1;crossing plank 0 1 1;crossing ferry 0 1 1;carrier 0 1;carrier 1 8;");
        Due.due("13: a feast", x.feast(), 1);
        Due.due("13: the other way", x.carrier(0, 2), 8);
        Due.due("13: of each", x.carrier(1, 2), 1);
        Due.due("13: of gates", x.count(6), 4);
        x.put(0, 0);
        x.feast();
        Due.due("13: also of what is down", x.carrier(0, 2), 1);
        Due.due("13: gates again", x.count(6), 0);
        Due.due("13: each an act", x.count(4), 3);
        Due.due("13: no land", new LadenEmpty().feast(), STATE);
    }

    private static void put() {
        LadenEmpty x = Due.told("crossing ford 0 1 1;crossing ford 0 1 1;carrier 0 0;");
        Due.due("14: crossing 2", x.put(2, 0), BAD);
        Due.due("14: crossing -1", x.put(-1, 0), BAD);
        Due.due("14: is 2", x.put(0, 2), BAD);
        Due.due("14: is -1", x.put(0, -1), BAD);
        Due.due("14: down", x.put(1, 0), 1);
        Due.due("16: over the other one", x.carrier(0, 3), 1);
        Due.due("14: down again", x.put(1, 0), 0);
        Due.due("14: up", x.put(1, 1), 0);
        Due.due("14: up again", x.put(1, 1), 1);
        Due.due("16: over both", x.carrier(0, 3), 3);
        Due.due("14: four acts", x.count(4), 4);
    }

    private static void undo() {
        LadenEmpty x = Due.told("crossing bridge 0 1 4;crossing gate 1 0 3;carrier 0 0;carrier 0 0;load 0 1;");
        Due.due("15: none", x.undo(), STATE);
        x.go(0, 1);
        x.go(0, 0);
        x.take(0, 0);
        x.hand(0, 1);
        x.lay(1);
        x.put(0, 0);
        x.put(0, 0);
        x.feast();
        Due.due("15: the feast", x.undo(), 7);
        Due.due("15: bridges as ahead of it", x.carrier(0, 2), 1);
        Due.due("15: gates as ahead of it", x.count(6), 2);
        Due.due("15: a put by which nothing became another", x.undo(), 6);
        Due.due("15: down yet", x.carrier(1, 3), 0);
        Due.due("15: a put", x.undo(), 5);
        Due.due("15: up", x.carrier(1, 3), 1);
        Due.due("15: the laying", x.undo(), 4);
        Due.due("15: he has it", x.carrier(1, 1), 0);
        Due.due("15: the handing", x.undo(), 3);
        Due.due("15: the first one has it", x.load(0, 2), 0);
        Due.due("15: the other one has none", x.carrier(1, 1), NONE);
        Due.due("15: the taking", x.undo(), 2);
        Due.due("15: it lies there", x.load(0, 0), 0);
        Due.due("15: the bridge", x.undo(), 1);
        Due.due("15: where he was", x.carrier(0, 0), 1);
        Due.due("15: empty is next", x.carrier(0, 2), 0);
        Due.due("15: its steps", x.count(5), 3);
        Due.due("15: the gate", x.undo(), 0);
        Due.due("15: the gate is empty next", x.count(6), 0);
        Due.due("15: no steps", x.count(5), 0);
        Due.due("15: none yet", x.undo(), STATE);
        undoOfMany();
    }

    private static void undoOfMany() {
        LadenEmpty x = Due.told("crossing ford 0 1 1;carrier 0 0;");
        for (int i = 0; i < 30; i++) {
            x.go(0, 0);
        }
        Due.due("15: 24 are kept", x.count(4), 24);
        Due.due("15: the latest", x.undo(), 23);
        x.go(0, 0);
        for (int i = 23; i >= 0; i--) {
            Due.due("15: how many yet", x.undo(), i);
        }
        Due.due("15: the oldest are forgotten", x.undo(), STATE);
        Due.due("15: their steps stay", x.count(5), 6);
    }

    private static void carrier() {
        LadenEmpty x = Due.told("crossing bridge 0 1 1;crossing bridge 1 0 1;crossing gate 0 1 1;"
            + "crossing plank 0 2 1;crossing ferry 2 0 1;crossing ford 1 2 1;carrier 0 62;load 0 0;");
        Due.due("16: town", x.carrier(0, 0), 0);
        Due.due("16: load", x.carrier(0, 1), NONE);
        Due.due("16: laden next", x.carrier(0, 2), 2);
        Due.due("16: may empty", x.carrier(0, 3), 1 + 4 + 8);
        x.take(0, 0);
        Due.due("16: has", x.carrier(0, 1), 0);
        Due.due("16: may laden", x.carrier(0, 3), 2 + 16);
        Due.due("16: what 4", x.carrier(0, 4), BAD);
        Due.due("16: what -1", x.carrier(0, -1), BAD);
        Due.due("16: carrier 1", x.carrier(1, 0), BAD);
        Due.due("16: carrier -1", x.carrier(-1, 0), BAD);
    }

    private static void load() {
        LadenEmpty x = Due.told("crossing ford 0 1 1;carrier 4 0;carrier 3 0;load 3 5;");
        Due.due("17: lies", x.load(0, 0), 3);
        Due.due("17: goal", x.load(0, 1), 5);
        Due.due("17: nobody has it", x.load(0, 2), NONE);
        x.take(1, 0);
        Due.due("17: somebody has it", x.load(0, 0), NONE);
        Due.due("17: goal yet", x.load(0, 1), 5);
        Due.due("17: who", x.load(0, 2), 1);
        Due.due("17: what 3", x.load(0, 3), BAD);
        Due.due("17: what -1", x.load(0, -1), BAD);
        Due.due("17: load 1", x.load(1, 0), BAD);
        Due.due("17: load -1", x.load(-1, 0), BAD);
    }
}
