/** Promises 6 to 8: the tape, what a text may be, its faults. */
final class TextTest {
    private static final String FORD = "crossing ford 0 1 1;";

    public static void main(String[] args) {
        feed();
        land();
        faults();
        sortsThatAreFull();
        whatStays();
        bytesOfAnotherTape();
        fullTape();
        Due.end();
    }

    private static void feed() {
        LadenEmpty x = new LadenEmpty();
        Due.due("6: n 0", x.feed(1L, 0), Due.BAD);
        Due.due("6: n 9", x.feed(1L, 9), Due.BAD);
        Due.due("6: n MIN", x.feed(1L, Integer.MIN_VALUE), Due.BAD);
        Due.due("6: one byte", x.feed(0x1234L, 1), 1);
        Due.due("6: three", x.feed(-1L, 3), 4);
        for (int i = 0; i < 49; i++) {
            x.feed(0L, 8);
        }
        Due.due("6: 396 bytes", x.count(7), 396);
        Due.due("6: no room for 5", x.feed(0L, 5), Due.FULL);
        Due.due("6: none came", x.count(7), 396);
        Due.due("6: BAD ahead of FULL", x.feed(0L, 9), Due.BAD);
        Due.due("6: room for 4", x.feed(0L, 4), 400);
        Due.due("6: no room for 1", x.feed(0L, 1), Due.FULL);
        x.land();
        Due.due("6: empty behind land", x.count(7), 0);
        // 'crossing' by its highest byte first, of a word only the lowest bytes
        LadenEmpty y = new LadenEmpty();
        y.feed(0x63726f7373696e67L, 8);
        y.feed(0x7878786772206664L, 1);
        Due.due("6: the lowest byte alone", y.land(), -1000100);
        y.feed(0x63726f7373696e67L, 8);
        y.feed(0x78787820666f7264L, 5);
        y.feed(0x2030203120313bL, 7);
        Due.due("6: the highest first", y.land(), 1);
    }

    private static void land() {
        LadenEmpty x = new LadenEmpty();
        Due.due("7: no blanks but where two would be one", Due.tell(x, "crossing bridge0 1 9;carrier5 1;load5 0;"), 1);
        Due.due("7: carriers", x.count(2), 1);
        Due.due("7: loads", x.count(3), 1);
        Due.due("7: many blanks", Due.tell(x, "\n crossing\n\nferry  005 04\n 009 ;\n "), 1);
        Due.due("7: steps and marks of 005 04 009", x.ask(0, 0), -91);
        Due.due("7: no carrier", x.count(2), 0);
        Due.due("7: no load", x.count(3), 0);
        String sorts = "crossing bridge 0 1 1;crossing gate 1 2 2;crossing ford 2 3 3;"
            + "crossing plank 3 4 4;crossing ferry 4 5 5;crossing bridge 5 0 6;";
        Due.due("7: six", Due.tell(x, sorts), 6);
        int[] kinds = {1, 2, 3, 4, 5, 1};
        for (int i = 0; i < 6; i++) {
            Due.due("7: kind(" + i + ")", x.kind(i), kinds[i]);
        }
        Due.due("7: loads without carriers", Due.tell(x, sorts + "load 0 0;load 5 5;load 0 5;load 5 0;"), 6);
        Due.due("7: four loads", x.count(3), 4);
        Due.due("7: three carriers", Due.tell(x, sorts + "carrier 0 63;carrier 1 0;carrier 2 34;"), 6);
        Due.due("7: bridges alone are kept", x.carrier(0, 2), 33);
        Due.due("7: of the last", x.carrier(2, 2), 32);
        Due.due("7: no gate by what was told", x.count(6), 0);
    }

    private static void faulty(String text, int number, int place) {
        LadenEmpty x = new LadenEmpty();
        Due.due("7: " + text, Due.tell(x, text), -1000100 - place);
        Due.due("8: " + text, x.fault(), number);
    }

    private static void faults() {
        faulty("", 1, 0);
        faulty("  \n", 1, 3);
        faulty("carrier 0 0;", 1, 0);
        faulty("load 0 0;", 1, 0);
        faulty(";", 1, 0);
        faulty(" 5", 1, 1);
        faulty("Crossing ford 0 1 1;", 1, 0);
        faulty("crossings ford 0 1 1;", 1, 0);
        faulty("crossingford 0 1 1;", 1, 0);
        faulty("crossingz ford 0 1 1;", 1, 0);
        faulty("drossing ford 0 1 1;", 1, 0);
        faulty("zcrossing ford 0 1 1;", 1, 0);
        faulty("crossing{ford 0 1 1;", 1, 8);
        faulty("crossing`ford 0 1 1;", 1, 8);
        faulty("crossing ford/0 1 1;", 1, 13);
        faulty("crossing ford:0 1 1;", 1, 13);
        faulty("crossin ford 0 1 1;", 1, 0);
        faulty("crossing", 1, 8);
        faulty("crossing ", 1, 9);
        faulty("crossing crossing 0 1 1;", 1, 9);
        faulty("crossing bridges 0 1 1;", 1, 9);
        faulty("crossing 0 0 1 1;", 1, 9);
        faulty("crossing ford ; 1 1;", 1, 14);
        faulty("crossing ford a 1 1;", 1, 14);
        faulty("crossing ford 6 1 1;", 2, 14);
        faulty("crossing ford 999 1 1;", 2, 14);
        faulty("crossing ford 0000 1 1;", 1, 14);
        faulty("crossing ford 9999 1 1;", 1, 14);
        faulty("crossing ford -1 1 1;", 1, 14);
        faulty("crossing ford 0 6 1;", 2, 16);
        faulty("crossing ford 3 003 1;", 2, 16);
        faulty("crossing ford 3 3", 2, 16);
        faulty("crossing ford 0 1 0;", 2, 18);
        faulty("crossing ford 0 1 10;", 2, 18);
        faulty("crossing ford 0 1 1", 1, 19);
        faulty("crossing ford 0 1 1 1;", 1, 20);
        faulty("crossing ford 0 1 1,", 1, 19);
        faulty("crossing ford\t0 1 1;", 1, 13);
        faulty("crossing ford 0 1 1\u00e9;", 1, 19);
        faulty(FORD + ";", 1, 20);
        faulty(FORD + "9", 1, 20);
        faulty(FORD + "ford 0 1 1;", 1, 20);
        faulty(FORD + " carrier", 1, 28);
        faulty(FORD + "carrier 6 0;", 2, 28);
        faulty(FORD + "carrier 0;", 1, 29);
        faulty(FORD + "carrier 0 2;", 2, 30);
        faulty(FORD + "carrier 0 999;", 2, 30);
        faulty(FORD + "carrier 0 1000;", 1, 30);
        faulty(FORD + "carrier 0 1", 1, 31);
        faulty(FORD + "carrier 0 1;crossing ford 0 1 1;", 1, 32);
        faulty(FORD + "load 6 0;", 2, 25);
        faulty(FORD + "load 0 6;", 2, 27);
        faulty(FORD + "load 0 0", 1, 28);
        faulty(FORD + "load 0 0;carrier 0 0;", 1, 29);
        faulty(FORD + "load 0 0;crossing ford 0 1 1;", 1, 29);
        faulty(FORD + FORD + "carrier 0 4;", 2, 50);
    }

    private static void sortsThatAreFull() {
        String six = FORD + FORD + FORD + FORD + FORD + FORD;
        faulty(six + "crossing", 3, 120);
        faulty(six + "crossing wall", 3, 120);
        faulty(six + "carrier 0 64;", 2, 130);
        String three = FORD + "carrier 0 0;carrier 0 0;carrier 0 0;";
        faulty(three + " carrier 9;", 3, 57);
        faulty(three + "crossing ford 0 1 1;", 1, 56);
        faulty(three + "load 0 0;carrier 0 0;", 1, 65);
        faulty(FORD + "load 0 0;load 0 0;load 0 0;load 0 0;load", 3, 56);
        LadenEmpty x = new LadenEmpty();
        Due.due("7: all full", Due.tell(x, six + "carrier 0 63;carrier 0 0;carrier 0 0;"
            + "load 0 0;load 0 0;load 0 0;load 0 0;"), 6);
    }

    private static void whatStays() {
        LadenEmpty x = Due.told("crossing bridge 0 1 1;carrier 0 0;load 1 0;");
        x.row(0, 0, 3);
        x.go(0, 0);
        x.take(0, 0);
        x.put(0, 0);
        Due.due("7: a fault", Due.tell(x, "crossing gate 2 3 4;crossing gate 2 3 4;carrier 5 0;load 5 5;load 5 5;x"), -1000170);
        Due.due("7: acts stay", x.count(4), 3);
        Due.due("7: steps stay", x.count(5), 1);
        Due.due("7: crossings stay", x.count(1), 1);
        Due.due("7: loads stay", x.count(3), 1);
        Due.due("7: the kind stays", x.kind(0), 1);
        Due.due("7: the goal stays", x.load(0, 1), 0);
        Due.due("7: who has it stays", x.load(0, 2), 0);
        Due.due("7: the town stays", x.carrier(0, 0), 1);
        Due.due("7: it stays down", x.put(0, 1), 0);
        Due.due("7: gone is the tape", x.count(7), 0);
        Due.due("7: in place of the one before", Due.tell(x, FORD + "carrier 1 1;load 1 1;"), 1);
        Due.due("8: the latest", x.fault(), 1);
        Due.due("7: nobody has a load", x.carrier(0, 1), Due.NONE);
        Due.due("7: no act", x.count(4), 0);
        Due.due("7: none to undo", x.undo(), Due.STATE);
        Due.due("7: no steps", x.count(5), 0);
        Due.due("7: rows stay", x.count(0), 1);
        Due.due("7: all are up", x.put(0, 1), 1);
        Due.due("7: a fault of a number", Due.tell(x, "crossing ford 9"), -1000114);
        Due.due("8: the latest of two", x.fault(), 2);
    }

    // What an earlier tape had behind the end of this one is none of its bytes.
    private static void bytesOfAnotherTape() {
        LadenEmpty x = new LadenEmpty();
        Due.due("7: blanks", Due.tell(x, "x          "), -1000100);
        Due.due("7: fewer blanks", Due.tell(x, "  "), -1000102);
        Due.due("7: 19 steps", Due.tell(x, "crossing ford 0 1 19"), -1000118);
        Due.due("7: 1 step, the end", Due.tell(x, "crossing ford 0 1 1"), -1000119);
        Due.due("7: for", Due.tell(x, "crossing for"), -1000109);
        Due.due("7: not even that", Due.tell(x, ""), -1000100);
    }

    private static void fullTape() {
        LadenEmpty x = new LadenEmpty();
        String blanks = " \n  ".repeat(95);
        Due.due("7: 400 bytes", Due.tell(x, blanks + FORD), 1);
        Due.due("7: blanks to the end", Due.tell(x, FORD + blanks), 1);
        Due.due("7: a name at the end", Due.tell(x, blanks + FORD.replace(';', 'z')), -1000499);
        Due.due("7: a number at the end", Due.tell(x, blanks + "crossing fordy 0 1 1"), -1000489);
        Due.due("7: no sign at the end", Due.tell(x, blanks + "crossing ford  0 1 1"), -1000500);
        Due.due("7: blanks alone", Due.tell(x, blanks + " ".repeat(20)), -1000500);
    }
}
