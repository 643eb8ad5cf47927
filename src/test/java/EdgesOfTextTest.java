import java.util.ArrayList;
import java.util.List;

/** The boundary cases of promises 6 to 8: the last text that is well, and the first that is not. */
final class EdgesOfTextTest {
    private static final int BAD = Due.BAD, FULL = Due.FULL;
    private static final int MISPLACED = 1, NOT_AS_TOLD = 2, NO_ROOM = 3;
    private static final String FORD = "crossing ford 0 1 1;", CARRIER = "carrier 0 0;", LOAD = "load 0 0;";
    // Six crossings, three carriers, four loads: nothing more has room. A blank stands between any two.
    private static final String ALL = "crossing bridge 0 5 1 ; crossing ford 5 0 9 ; crossing plank 1 2 3 ; "
        + "crossing ferry 2 3 4 ; crossing gate 3 4 5 ; crossing bridge 4 5 6 ; "
        + "carrier 0 0 ; carrier 5 63 ; carrier 3 1 ; load 0 5 ; load 5 0 ; load 2 2 ; load 1 4 ;";

    public static void main(String[] args) {
        feedOfBytes();
        feedUntilFull();
        feedBadAheadOfFull();
        feedTheLowestBytes();
        emptyBehindLand();
        crossings();
        carriers();
        loads();
        order();
        towns();
        unlikeTowns();
        steps();
        laden();
        figures();
        blanks();
        blanksThatAreNone();
        bytesThatAreNone();
        letters();
        words();
        theEnd();
        eachTokenCutOff();
        eachTokenAnother();
        eachTokenOnceMore();
        firstTokenThatHasOne();
        fullTape();
        faultIsTheLatest();
        faultChangesNothing();
        inPlaceOfTheOneBefore();
        Due.end();
    }

    private static void well(String text, int crossings, int carriers, int loads) {
        LadenEmpty x = new LadenEmpty();
        Due.due("7: land of " + text, Due.tell(x, text), crossings);
        Due.due("7: carriers of " + text, x.count(2), carriers);
        Due.due("7: loads of " + text, x.count(3), loads);
        Due.due("8: no fault of " + text, x.fault(), 0);
    }

    private static void faulty(String text, int number, int place) {
        LadenEmpty x = new LadenEmpty();
        Due.due("7: land of " + text, Due.tell(x, text), -1000100 - place);
        Due.due("8: fault of " + text, x.fault(), number);
        Due.due("7: no land by " + text, x.feast(), Due.STATE);
    }

    private static void fill(LadenEmpty x, int bytes) {
        for (int i = 0; i < bytes / 8; i++) {
            x.feed(0x2020202020202020L, 8);
        }
        if (bytes % 8 > 0) {
            x.feed(0x2020202020202020L, bytes % 8);
        }
    }

    // "The lowest n bytes of w (1 to 8)"
    private static void feedOfBytes() {
        LadenEmpty x = new LadenEmpty();
        Due.outside("6: n", 1, 8, BAD, n -> x.feed(-1L, n));
        Due.due("6: none came", x.count(7), 0);
        int has = 0;
        for (int n = 1; n <= 8; n++) {
            has += n;
            Due.due("6: n " + n, x.feed(Long.MIN_VALUE, n), has);
        }
        Due.due("6: all came", x.count(7), 36);
    }

    // "THE TAPE has at most 400 bytes"; "FULL: none comes"
    private static void feedUntilFull() {
        for (int n = 1; n <= 8; n++) {
            LadenEmpty x = new LadenEmpty();
            fill(x, 400 - n);
            Due.due("6: room for " + n, x.feed(0L, n), 400);
            Due.due("6: full, " + n, x.feed(0L, n), FULL);
            Due.due("6: full, 1", x.feed(0L, 1), FULL);
            Due.due("6: 400", x.count(7), 400);
            LadenEmpty y = new LadenEmpty();
            fill(y, 401 - n);
            Due.due("6: no room for " + n, y.feed(0L, n), FULL);
            Due.due("6: none came of " + n, y.count(7), 401 - n);
        }
        LadenEmpty z = new LadenEmpty();
        fill(z, 399);
        z.feed(0x2061L, 2);
        Due.due("6: not even the first came", z.land(), -1000499);
    }

    private static void feedBadAheadOfFull() {
        LadenEmpty x = new LadenEmpty();
        fill(x, 400);
        Due.due("6: 1 on a full tape", x.feed(0L, 1), FULL);
        Due.due("6: 8 on a full tape", x.feed(0L, 8), FULL);
        Due.outside("6: BAD on a full tape", 1, 8, BAD, n -> x.feed(0L, n));
        Due.due("6: full yet", x.count(7), 400);
    }

    // "the highest of them first"; the bytes above the lowest n do not come
    private static void feedTheLowestBytes() {
        LadenEmpty x = new LadenEmpty();
        x.feed(0x63726f7373696e67L, 8);
        x.feed(0xffffffffff20666fL, 3);
        x.feed(0x3b3b3b3b3b3b7264L, 2);
        x.feed(0x3b3b3b3b3b3b3b20L, 1);
        x.feed(0x3b30203120393b20L, 7);
        Due.due("6: no sign came ahead of a word", x.land(), 1);
        x.feed(0x63726f7373696e67L, 8);
        x.feed(0xffff20666f726420L, 6);
        x.feed(0xff0030203120393bL, 6);
        Due.due("6: crossing ford 0 1 9;", x.land(), 1);
        Due.due("6: 9 steps", x.ask(0, 0), -91);
        x.feed(0x8063726f7373696eL, 8);
        Due.due("6: a byte of 128", x.land(), -1000100);
        Due.due("6: is no token", x.fault(), MISPLACED);
    }

    // "The tape, empty then, is read"
    private static void emptyBehindLand() {
        LadenEmpty x = new LadenEmpty();
        Due.due("7: a land", Due.tell(x, FORD), 1);
        Due.due("7: empty behind it", x.count(7), 0);
        Due.due("7: nothing is read anew", x.land(), -1000100);
        Due.due("7: a fault", Due.tell(x, FORD + "?"), -1000120);
        Due.due("7: empty behind that, too", x.count(7), 0);
        fill(x, 400);
        Due.due("7: a full one", x.land(), -1000500);
        Due.due("7: empty behind that as well", x.count(7), 0);
        Due.due("6: room anew", x.feed(0L, 8), 8);
    }

    // "crossing { crossing }"; "CROSSINGS 0 .. 5, 6 at most"
    private static void crossings() {
        faulty("", MISPLACED, 0);
        faulty(CARRIER, MISPLACED, 0);
        faulty(LOAD, MISPLACED, 0);
        for (int n = 1; n <= 6; n++) {
            well(FORD.repeat(n), n, 0, 0);
        }
        faulty(FORD.repeat(7), NO_ROOM, 120);
        faulty(FORD.repeat(6) + "crossing", NO_ROOM, 120);
        faulty(FORD.repeat(6) + " crossing ford 9", NO_ROOM, 121);
        faulty(FORD.repeat(8), NO_ROOM, 120);
        LadenEmpty x = Due.told(FORD.repeat(5) + "crossing gate 0 1 1;");
        Due.due("26: the last of six", x.kind(5), 2);
        Due.due("26: none behind it", x.kind(6), BAD);
    }

    // "{ carrier }"; "CARRIERS 0 .. 2, 3 at most"
    private static void carriers() {
        for (int n = 0; n <= 3; n++) {
            well(FORD + CARRIER.repeat(n), 1, n, 0);
            well(FORD + CARRIER.repeat(n) + LOAD, 1, n, 1);
        }
        faulty(FORD + CARRIER.repeat(4), NO_ROOM, 56);
        faulty(FORD + CARRIER.repeat(3) + "carrier", NO_ROOM, 56);
        faulty(FORD + CARRIER.repeat(3) + "\ncarrier 6", NO_ROOM, 57);
        LadenEmpty x = Due.told(FORD + CARRIER.repeat(2) + "carrier 4 1;");
        Due.due("16: the last of three", x.carrier(2, 0), 4);
        Due.due("16: none behind him", x.carrier(3, 0), BAD);
    }

    // "{ load }"; "LOADS 0 .. 3, 4 at most"
    private static void loads() {
        for (int n = 0; n <= 4; n++) {
            well(FORD + LOAD.repeat(n), 1, 0, n);
            well(FORD + CARRIER + LOAD.repeat(n), 1, 1, n);
        }
        faulty(FORD + LOAD.repeat(5), NO_ROOM, 56);
        faulty(FORD + LOAD.repeat(4) + "load", NO_ROOM, 56);
        faulty(FORD + LOAD.repeat(4) + "  load ;", NO_ROOM, 58);
        LadenEmpty x = Due.told(FORD + LOAD.repeat(3) + "load 3 4;");
        Due.due("17: the last of four", x.load(3, 1), 4);
        Due.due("17: none behind it", x.load(4, 1), BAD);
    }

    private static void order() {
        well(FORD + CARRIER + LOAD, 1, 1, 1);
        faulty(CARRIER + FORD, MISPLACED, 0);
        faulty(FORD + CARRIER + FORD, MISPLACED, 32);
        faulty(FORD + LOAD + CARRIER, MISPLACED, 29);
        faulty(FORD + LOAD + FORD, MISPLACED, 29);
        faulty(FORD + CARRIER + LOAD + CARRIER, MISPLACED, 41);
        faulty(FORD + CARRIER + LOAD + FORD, MISPLACED, 41);
        // Where it cannot stand, it does not matter whether there would be room.
        faulty(FORD.repeat(6) + CARRIER + FORD, MISPLACED, 132);
        faulty(FORD + CARRIER.repeat(3) + LOAD + CARRIER, MISPLACED, 65);
        faulty(FORD.repeat(6) + LOAD + FORD, MISPLACED, 129);
    }

    // "unlike TOWNS 0 to 5"; "carrier: 'carrier' TOWN"; "load: 'load' TOWN GOAL (0 to 5 both)"
    private static void towns() {
        int[] outside = {6, 7, 10, 64, 100, 999};
        for (int town = 0; town <= 5; town++) {
            int other = (town + 1) % 6;
            well("crossing ford " + town + " " + other + " 1;", 1, 0, 0);
            well(FORD + "carrier " + town + " 0;load " + town + " " + other + ";", 1, 1, 1);
            LadenEmpty x = Due.told("crossing ford " + town + " " + other + " 1;carrier " + town + " 0;carrier "
                + other + " 0;load " + town + " " + other + ";load " + town + " " + town + ";");
            Due.due("7: at the one end", x.carrier(0, 3), 1);
            Due.due("7: at the other end", x.carrier(1, 3), 1);
            Due.due("7: it lies there", x.load(0, 0), town);
            Due.due("7: its goal", x.load(0, 1), other);
            Due.due("7: a goal where it lies", x.load(1, 1), town);
        }
        for (int town : outside) {
            faulty("crossing ford " + town + " 1 1;", NOT_AS_TOLD, 14);
            faulty("crossing ford 1 " + town + " 1;", NOT_AS_TOLD, 16);
            faulty(FORD + "carrier " + town + " 0;", NOT_AS_TOLD, 28);
            faulty(FORD + "load " + town + " 0;", NOT_AS_TOLD, 25);
            faulty(FORD + "load 0 " + town + ";", NOT_AS_TOLD, 27);
        }
    }

    private static void unlikeTowns() {
        for (int a = 0; a < 6; a++) {
            for (int b = 0; b < 6; b++) {
                String text = "crossing gate " + a + " " + b + " 5;";
                if (a == b) {
                    faulty(text, NOT_AS_TOLD, 16);
                } else {
                    well(text, 1, 0, 0);
                }
            }
        }
        faulty("crossing gate 006 6 1;", NOT_AS_TOLD, 14);
        faulty("crossing gate 04 004 1;", NOT_AS_TOLD, 17);
    }

    // "STEPS .. 1 to 9"
    private static void steps() {
        faulty("crossing ford 0 1 0;", NOT_AS_TOLD, 18);
        faulty("crossing ford 0 1 000;", NOT_AS_TOLD, 18);
        for (int steps = 1; steps <= 9; steps++) {
            LadenEmpty x = Due.told("crossing ford 0 1 " + steps + ";carrier 0 0;");
            x.go(0, 0);
            Due.due("7: steps " + steps, x.count(5), steps);
        }
        well("crossing ford 0 1 009;", 1, 0, 0);
        faulty("crossing ford 0 1 10;", NOT_AS_TOLD, 18);
        faulty("crossing ford 0 1 010;", NOT_AS_TOLD, 18);
        faulty("crossing ford 0 1 999;", NOT_AS_TOLD, 18);
    }

    // "a set of CROSSINGS told", "(of those that are no bridges it does not matter, they are not kept)"
    private static void laden() {
        for (int n = 1; n <= 6; n++) {
            int all = (1 << n) - 1;
            LadenEmpty x = Due.told("crossing bridge 0 1 1;".repeat(n) + "carrier 0 0;carrier 0 " + all + ";");
            Due.due("7: none of " + n, x.carrier(0, 2), 0);
            Due.due("7: all of " + n, x.carrier(1, 2), all);
            faulty(FORD.repeat(n) + "carrier 0 " + (all + 1) + ";", NOT_AS_TOLD, 20 * n + 10);
            faulty(FORD.repeat(n) + "carrier 0 999;", NOT_AS_TOLD, 20 * n + 10);
        }
        String five = "crossing bridge 0 1 1;crossing gate 0 1 1;crossing ford 0 1 1;crossing plank 0 1 1;"
            + "crossing ferry 0 1 1;";
        LadenEmpty y = Due.told(five + "carrier 0 31;carrier 0 30;carrier 0 1;");
        Due.due("7: the bridge alone is kept", y.carrier(0, 2), 1);
        Due.due("7: of the others none", y.carrier(1, 2), 0);
        Due.due("7: the bridge", y.carrier(2, 2), 1);
        Due.due("7: a gate is empty at first, whatever was told of it", y.count(6), 0);
        Due.due("16: empty over all but the bridge and the ferry", y.carrier(0, 3), 2 + 4 + 8);
    }

    // "NUMBERS (figures, 3 at most)"; "a run of four figures or more, at its first"
    private static void figures() {
        well("crossing ford 000 001 009;carrier 005 001;load 005 000;", 1, 1, 1);
        faulty("crossing ford 0000 1 1;", MISPLACED, 14);
        faulty("crossing ford 0 0001 1;", MISPLACED, 16);
        faulty("crossing ford 0 1 0001;", MISPLACED, 18);
        faulty(FORD + "carrier 0000 0;", MISPLACED, 28);
        faulty(FORD + "carrier 0 0000;", MISPLACED, 30);
        faulty(FORD + "load 0000 0;", MISPLACED, 25);
        faulty(FORD + "load 0 0000;", MISPLACED, 27);
        faulty("crossing ford 999 1 1;", NOT_AS_TOLD, 14);
        faulty("crossing ford 1000 1 1;", MISPLACED, 14);
        faulty("crossing ford 4294967296 1 1;", MISPLACED, 14);
        faulty("crossing ford " + "0".repeat(386), MISPLACED, 14);
        faulty("0".repeat(400), MISPLACED, 0);
    }

    // "bytes 32 and 10 ahead of, between, behind these, as many as wanted (none is needed where one ends without)"
    private static void blanks() {
        well("crossing ford0 1 1;carrier0 0;load0 0;", 1, 1, 1);
        well("crossing\nford\n0\n1\n1\n;\ncarrier\n0\n0\n;\nload\n0\n0\n;\n", 1, 1, 1);
        well("  \n crossing \n\n ford  0 \n1\n\n\n1  ;  \n\n", 1, 0, 0);
        well("crossing ford0" + " ".repeat(379) + "1 1;" + " ".repeat(3), 1, 0, 0);
        faulty("crossingford 0 1 1;", MISPLACED, 0);
        faulty("crossing ford 02 1;", MISPLACED, 18);
        faulty("crossing ford 0 11;", NOT_AS_TOLD, 16);
        faulty("crossing fo rd 0 1 1;", MISPLACED, 9);
        faulty("crossing ford 0 1 1;car rier 0 0;", MISPLACED, 20);
        faulty("crossing ford 0 1 1;carrier 0 00 0;", MISPLACED, 33);
    }

    private static void blanksThatAreNone() {
        char[] near = {0, 9, 11, 12, 13, 31, 33, 127, 128, 160, 255};
        for (char c : near) {
            faulty("crossing ford 0" + c + " 1 1;", MISPLACED, 15);
            faulty(c + FORD, MISPLACED, 0);
            faulty(FORD + c, MISPLACED, 20);
        }
        for (char c : new char[] {10, 32}) {
            well("crossing ford 0" + c + " 1 1;", 1, 0, 0);
            well(c + FORD, 1, 0, 0);
            well(FORD + c, 1, 0, 0);
        }
    }

    // No byte but letters, figures, the sign and blanks stands anywhere.
    private static void bytesThatAreNone() {
        for (char c = 0; c < 256; c++) {
            boolean isBlank = c == 10 || c == 32;
            boolean isFigure = c >= '0' && c <= '9';
            boolean isLetter = c >= 'a' && c <= 'z';
            if (isBlank || isFigure || isLetter || c == ';') {
                continue;
            }
            faulty("crossing" + c, MISPLACED, 8);
            faulty("crossing ford" + c + "0 1 1;", MISPLACED, 13);
            faulty("crossing ford 0 1 1" + c, MISPLACED, 19);
        }
        for (char c = '0'; c <= '9'; c++) {
            if (c == '0') {
                faulty("crossing ford 0 1 " + c + ";", NOT_AS_TOLD, 18);
            } else {
                well("crossing ford 0 1 " + c + ";", 1, 0, 0);
            }
        }
    }

    // "NAMES (letters a to z)": each run of letters is one
    private static void letters() {
        for (char c = 'a'; c <= 'z'; c++) {
            faulty("crossing ford" + c + " 0 1 1;", MISPLACED, 9);
            faulty("crossing " + c + "ford 0 1 1;", MISPLACED, 9);
            faulty(c + FORD, MISPLACED, 0);
            faulty(FORD + c, MISPLACED, 20);
            faulty("crossing ford 0 1 1" + c + ";", MISPLACED, 19);
        }
        faulty("crossing fordA 0 1 1;", MISPLACED, 13);
        faulty("crossing ford` 0 1 1;", MISPLACED, 13);
        faulty("crossing ford{ 0 1 1;", MISPLACED, 13);
        faulty("z".repeat(400), MISPLACED, 0);
    }

    private static void words() {
        String[] sorts = {"bridge", "ford", "plank", "ferry", "gate"};
        for (String sort : sorts) {
            well("crossing " + sort + " 0 1 1;", 1, 0, 0);
            String shorter = sort.substring(0, sort.length() - 1);
            faulty("crossing " + shorter + " 0 1 1;", MISPLACED, 9);
            faulty("crossing " + sort + "s 0 1 1;", MISPLACED, 9);
            faulty("crossing " + shorter + "x 0 1 1;", MISPLACED, 9);
            faulty("crossing x" + sort.substring(1) + " 0 1 1;", MISPLACED, 9);
            faulty("crossing " + sort.toUpperCase() + " 0 1 1;", MISPLACED, 9);
            faulty(sort + " 0 1 1;", MISPLACED, 0);
        }
        String[] wrong = {"crossin", "crossings", "drossing", "Crossing", "crossinh", "carrie", "carriers", "loa", "loads"};
        for (String word : wrong) {
            faulty(FORD + word + " ford 0 1 1;", MISPLACED, 20);
        }
    }

    // "the end: how many bytes there are"
    private static void theEnd() {
        well(FORD, 1, 0, 0);
        faulty("crossing ford 0 1 1", MISPLACED, 19);
        faulty("crossing ford 0 1 1 ", MISPLACED, 20);
        faulty("crossing ford 0 1 1\n\n\n", MISPLACED, 22);
        faulty("", MISPLACED, 0);
        faulty(" ", MISPLACED, 1);
        faulty("\n\n", MISPLACED, 2);
        faulty(" ".repeat(399), MISPLACED, 399);
        faulty(" ".repeat(400), MISPLACED, 400);
    }

    private static String joined(List<String> tokens) {
        return String.join(" ", tokens);
    }

    private static int placeOf(int token, List<String> tokens) {
        return token == 0 ? 0 : joined(tokens.subList(0, token)).length() + 1;
    }

    private static List<String> tokens() {
        return new ArrayList<>(List.of(ALL.split(" ")));
    }

    private static void eachTokenCutOff() {
        well(ALL, 6, 3, 4);
        List<String> all = tokens();
        for (int n = 0; n < all.size(); n++) {
            List<String> some = all.subList(0, n);
            String text = joined(some);
            if (n > 0 && some.get(n - 1).equals(";")) {
                LadenEmpty x = new LadenEmpty();
                Due.due("7: cut off, " + text, Due.tell(x, text), Math.min(n / 6, 6));
            } else {
                faulty(text, MISPLACED, text.length());
                faulty(text + "\n ", MISPLACED, text.length() + 2);
            }
        }
    }

    private static void eachTokenAnother() {
        List<String> all = tokens();
        for (int i = 0; i < all.size(); i++) {
            String was = all.get(i);
            for (String other : List.of("x", "0000", ",", "ford", ";", "5", "crossing")) {
                if (!mayStand(other, was)) {
                    all.set(i, other);
                    faulty(joined(all), MISPLACED, placeOf(i, all));
                }
            }
            all.set(i, was);
        }
    }

    private static boolean mayStand(String other, String was) {
        switch (other) {
            case "ford": return List.of("bridge", "ford", "plank", "ferry", "gate").contains(was);
            case "crossing": return List.of("crossing", "carrier", "load").contains(was);
            default: return sortOf(other) > 1 && sortOf(other) < 4 && sortOf(other) == sortOf(was);
        }
    }

    // 1 a name, 2 a number, 3 the sign, 4 none of these
    private static int sortOf(String token) {
        char first = token.charAt(0);
        if (first >= 'a' && first <= 'z') {
            return 1;
        }
        return first == ';' ? 3 : first >= '0' && first <= '9' && token.length() < 4 ? 2 : 4;
    }

    // What is told twice stands where the next one is told: it, or the next one, cannot stand there.
    private static void eachTokenOnceMore() {
        for (int i = 0; i < tokens().size(); i++) {
            List<String> all = tokens();
            String token = all.get(i);
            all.add(i, token);
            boolean isNumber = sortOf(token) == 2;
            boolean isLast = i + 2 >= all.size() || all.get(i + 2).equals(";");
            boolean isA = isNumber && i >= 2 && all.get(i - 2).equals("crossing");
            boolean isB = isNumber && i >= 3 && all.get(i - 3).equals("crossing");
            if (isA || isB && token.equals("0")) {
                faulty(joined(all), NOT_AS_TOLD, placeOf(i + 1, all));
            } else {
                faulty(joined(all), MISPLACED, placeOf(isNumber && !isLast ? i + 2 : i + 1, all));
            }
        }
    }

    // "FAULTS, the first TOKEN that has one"
    private static void firstTokenThatHasOne() {
        faulty("crossing ford 6 6 0 ;", NOT_AS_TOLD, 14);
        faulty("crossing ford 6 wall", NOT_AS_TOLD, 14);
        faulty("crossing wall 6 6 0", MISPLACED, 9);
        faulty("crossing ford 0 1 10 carrier", NOT_AS_TOLD, 18);
        faulty(FORD + "carrier 6 2 2", NOT_AS_TOLD, 28);
        faulty(FORD + "carrier 5 2 2", NOT_AS_TOLD, 30);
        faulty(FORD + "carrier 5 1 2", MISPLACED, 32);
        faulty(FORD.repeat(6) + "crossing ford 6", NO_ROOM, 120);
        faulty(FORD.repeat(5) + "crossing ford 6 0 1;crossing", NOT_AS_TOLD, 114);
        faulty(FORD.repeat(6) + "? crossing", MISPLACED, 120);
    }

    // A text of 400 bytes is read as any other; 401 have no room.
    private static void fullTape() {
        String blanks = " ".repeat(400 - FORD.length());
        LadenEmpty x = new LadenEmpty();
        Due.feedText(x, blanks + FORD);
        Due.due("6: 400 bytes", x.count(7), 400);
        Due.due("6: not one more", x.feed('?', 1), FULL);
        Due.due("7: 400 bytes", x.land(), 1);
        well(FORD + blanks, 1, 0, 0);
        faulty(blanks + "crossing ford 0 1 1 ", MISPLACED, 400);
        faulty(blanks + "crossing ford 0 1 1?", MISPLACED, 399);
        faulty(blanks + "crossing ford 0 1 10", NOT_AS_TOLD, 398);
        faulty(blanks.substring(1) + "crossing ford 0 10001", MISPLACED, 395);
        faulty(blanks + " crossing ford 0 abc", MISPLACED, 397);
        faulty(FORD.repeat(6) + CARRIER.repeat(3) + LOAD.repeat(4) + " ".repeat(204) + "load", NO_ROOM, 396);
    }

    // "The number of the latest FAULT; 0 before one."
    private static void faultIsTheLatest() {
        LadenEmpty x = new LadenEmpty();
        Due.due("8: before one", x.fault(), 0);
        Due.tell(x, FORD);
        Due.due("8: before one, behind a land", x.fault(), 0);
        Due.tell(x, "crossing ford 6");
        Due.due("8: the first", x.fault(), NOT_AS_TOLD);
        Due.tell(x, FORD.repeat(7));
        Due.due("8: the second", x.fault(), NO_ROOM);
        Due.tell(x, FORD);
        Due.due("8: the second, behind a land", x.fault(), NO_ROOM);
        x.feed(0L, 9);
        x.row(8, 0, 0);
        x.drop(0);
        x.go(0, 0);
        Due.due("8: no refusal is one", x.fault(), NO_ROOM);
        x.land();
        Due.due("8: of an empty tape", x.fault(), MISPLACED);
    }

    // "all but the tape, and what fault() tells, stays"
    private static void faultChangesNothing() {
        String[] faults = {"", "crossing", "crossing gate 4 5 9;carrier 4 1;load 4 4;load 4 4;;",
            "crossing gate 4 5 9;carrier 4 1;carrier 6 0;", "crossing gate 4 5 9;load 4 6;", FORD.repeat(7)};
        for (String fault : faults) {
            LadenEmpty x = Due.told("crossing bridge 0 1 2;crossing ford 1 0 3;carrier 0 1;carrier 1 0;load 0 3;load 1 2;");
            x.row(3, 1, 4);
            x.image(1);
            x.take(0, 0);
            x.go(0, 0);
            x.put(1, 0);
            x.set(3, 4, 0);
            x.ask(1, 0);
            Due.tell(x, fault);
            int[] due = {1, 2, 2, 2, 3, 2, 0, 0};
            for (int what = 0; what < 8; what++) {
                Due.due("7: count " + what + " behind " + fault, x.count(what), due[what]);
            }
            Due.due("7: the finding stays behind " + fault, x.status(), 2);
            Due.due("7: the trace stays behind " + fault, x.trace(0), 13);
            Due.due("7: his town behind " + fault, x.carrier(0, 0), 1);
            Due.due("7: his load behind " + fault, x.carrier(0, 1), 0);
            Due.due("7: his bridges behind " + fault, x.carrier(0, 2), 0);
            Due.due("7: the other one's crossings behind " + fault, x.carrier(1, 3), 1);
            Due.due("7: a goal behind " + fault, x.load(1, 1), 2);
            Due.due("7: a kind behind " + fault, x.kind(0) * 10 + x.kind(1), 13);
            Due.due("7: an act behind " + fault, x.undo(), 2);
            Due.due("7: up anew behind " + fault, x.carrier(1, 3), 3);
            Due.due("7: no image of it behind " + fault, x.restore(0), Due.STATE);
            Due.due("7: an image behind " + fault, x.restore(1), 1);
        }
    }

    // "nobody has a LOAD; all CROSSINGS are up; no ACT can be undone; 0 STEPS were gone; IMAGES and ROWS stay"
    private static void inPlaceOfTheOneBefore() {
        LadenEmpty x = Due.told(ALL);
        x.row(0, 0, 7);
        x.set(0, 7, 0);
        x.put(0, 0);
        x.take(0, 0);
        x.feast();
        x.image(0);
        Due.due("7: steps ahead of it", x.go(0, 1), 5);
        Due.due("7: gates ahead of it", x.count(6), 16);
        Due.due("7: the same land anew", Due.tell(x, ALL), 6);
        Due.due("7: nobody has a load", x.carrier(0, 1), Due.NONE);
        Due.due("7: it lies", x.load(0, 0), 0);
        Due.due("7: all are up", x.put(0, 1), 1);
        Due.due("7: that act alone", x.undo(), 0);
        Due.due("7: none to undo", x.undo(), Due.STATE);
        Due.due("7: no steps", x.count(5), 0);
        Due.due("7: gates are empty next", x.count(6), 0);
        Due.due("7: what he is told", x.carrier(1, 2), 33);
        Due.due("7: the finding stays", x.status(), 2);
        Due.due("7: the row stays", x.drop(0), 7);
        Due.due("7: the image stays", x.restore(0), 1);
        Due.due("7: with his load", x.carrier(0, 1), 0);
        Due.due("7: with its gates", x.count(6), 16);
        Due.due("7: a smaller one", Due.tell(x, FORD), 1);
        Due.due("7: no carriers", x.carrier(0, 0), BAD);
        Due.due("7: no loads", x.load(0, 0), BAD);
        Due.due("7: one crossing", x.put(1, 0), BAD);
        Due.due("7: a larger one", Due.tell(x, ALL), 6);
        Due.due("7: nobody has a load by then", x.load(0, 2), Due.NONE);
    }
}
