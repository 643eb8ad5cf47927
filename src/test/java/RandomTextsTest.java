import java.util.ArrayDeque;
import java.util.ArrayList;
import java.util.Deque;
import java.util.List;
import java.util.Random;
import java.util.regex.Matcher;
import java.util.regex.Pattern;

/**
 * Promises 7, 8: texts by chance (always the same ones), well and spoiled in a few places, read
 * another way: all tokens are cut first, then each is held against the slots that are open.
 */
final class RandomTextsTest {
    private static final int OBJECTS = 3000, TEXTS = 5;
    private static final Pattern TOKEN = Pattern.compile("[ \n]*([a-z]+|[0-9]+|\\z|.)", Pattern.DOTALL);
    private static final List<String> WORDS = List.of("crossing", "carrier", "load");
    private static final List<String> SORTS = List.of("bridge", "gate", "ford", "plank", "ferry");
    private static final int[] ROOM = {6, 3, 4};
    private static final String[][] SLOTS = {{"sort", "town", "unlike", "steps", ";"}, {"town", "set", ";"},
        {"town", "town", ";"}};
    private static final String[] SNIPPETS = {" ", "\n", ";", "0", "5", "6", "9", "10", "63", "64", "000", "0000", "007",
        "crossing", "carrier", "load", "ford", "gate", "bridg", "bridges", "Ford", "\t", "\r", "-1", "+", ":", "<",
        "/", "@", "`", "{", "\0", "\u00e9", "\u00ff", "\u0080", "\u00b0", "loads", "a", "z", "; ;", "carrier 0 0;",
        "load 5 0 ;", "crossing gate 3 2 1;"};

    /** What is due of a text: the answer of land(), the number of its fault, and what is told then. */
    private static final class Reading {
        final int[] told = new int[3];
        final List<Integer> kinds = new ArrayList<>();
        final Deque<String> open = new ArrayDeque<>();
        int sort = 0;
        int last = -1;
        int fault = 0;
        int place = 0;

        Reading(String text) {
            Matcher m = TOKEN.matcher(text);
            while (fault == 0 && m.find()) {
                place = m.start(1);
                fault = faultOf(m.group(1));
                if (m.group(1).isEmpty()) {
                    break;
                }
            }
        }

        private int faultOf(String token) {
            return open.isEmpty() ? faultOfWord(token) : faultIn(open.poll(), token);
        }

        private int faultOfWord(String token) {
            if (token.isEmpty()) {
                return told[0] > 0 ? 0 : 1;
            }
            int word = WORDS.indexOf(token);
            if (word < sort || word > 0 && told[0] == 0) {
                return 1;
            }
            if (told[word] == ROOM[word]) {
                return 3;
            }
            sort = word;
            told[word]++;
            last = -1;
            open.addAll(List.of(SLOTS[word]));
            return 0;
        }

        private int faultIn(String slot, String token) {
            if (slot.equals("sort")) {
                kinds.add(SORTS.indexOf(token) + 1);
                return SORTS.contains(token) ? 0 : 1;
            }
            if (slot.equals(";")) {
                return token.equals(";") ? 0 : 1;
            }
            if (!token.matches("[0-9]{1,3}")) {
                return 1;
            }
            int number = Integer.parseInt(token);
            boolean isWell = switch (slot) {
                case "town" -> number < 6;
                case "unlike" -> number < 6 && number != last;
                case "steps" -> number > 0 && number < 10;
                default -> number < 1 << told[0];
            };
            last = number;
            return isWell ? 0 : 2;
        }
    }

    private final Random random;
    private final LadenEmpty x = new LadenEmpty();
    private final String name;
    private Reading now = null;
    private int latestFault = 0;

    private RandomTextsTest(int object) {
        random = new Random(object);
        name = "object " + object;
    }

    public static void main(String[] args) {
        int[] seen = new int[4];
        for (int object = 0; object < OBJECTS; object++) {
            new RandomTextsTest(object).play(seen);
        }
        for (int fault = 0; fault < seen.length; fault++) {
            Due.due("texts by chance with fault " + fault + " are at least 200", Math.min(seen[fault], 200), 200);
        }
        Due.end();
    }

    private void play(int[] seen) {
        for (int i = 0; i < TEXTS; i++) {
            String text = text();
            Reading due = new Reading(text);
            seen[due.fault]++;
            latestFault = due.fault > 0 ? due.fault : latestFault;
            now = due.fault > 0 ? now : due;
            int answer = due.fault > 0 ? -1000100 - due.place : due.told[0];
            Due.due(name + ", 7: land of [" + text + "]", Due.tell(x, text), answer);
            Due.due(name + ", 8: fault of [" + text + "]", x.fault(), latestFault);
            Due.due(name + ", 7: the tape behind [" + text + "]", x.count(7), 0);
            look(text);
        }
    }

    private void look(String text) {
        for (int sort = 0; sort < 3; sort++) {
            Due.due(name + ", 30: count(" + (sort + 1) + ") behind [" + text + "]", x.count(sort + 1),
                now == null ? 0 : now.told[sort]);
        }
        for (int c = 0; c < 6; c++) {
            boolean is = now != null && c < now.told[0];
            Due.due(name + ", 26: kind(" + c + ") behind [" + text + "]", x.kind(c), is ? now.kinds.get(c) : Due.BAD);
        }
    }

    private String blank(boolean isNeeded) {
        return isNeeded && random.nextInt(40) > 0 ? " " : random.nextInt(6) == 0 ? "\n" : "";
    }

    private String number(int most) {
        return blank(true) + (random.nextInt(60) == 0 ? random.nextInt(most + 3) : random.nextInt(most + 1));
    }

    // Mostly as many of each sort as there is room for, at times one more.
    private int many(int room) {
        return random.nextInt(12) == 0 ? room + 1 : random.nextInt(room + 1);
    }

    private String text() {
        StringBuilder text = new StringBuilder();
        int crossings = Math.max(many(6), random.nextInt(20) == 0 ? 0 : 1);
        for (int i = 0; i < crossings; i++) {
            int a = random.nextInt(6);
            int b = random.nextInt(40) == 0 ? a : (a + 1 + random.nextInt(5)) % 6;
            text.append(blank(false)).append("crossing").append(blank(true)).append(SORTS.get(random.nextInt(5)))
                .append(blank(true)).append(a).append(blank(true)).append(b).append(' ').append(1 + random.nextInt(9))
                .append(';');
        }
        for (int i = many(3); i > 0; i--) {
            text.append("carrier").append(number(5)).append(number((1 << Math.min(crossings, 6)) - 1))
                .append(blank(false)).append(';');
        }
        for (int i = many(4); i > 0; i--) {
            text.append("load").append(number(5)).append(number(5)).append(';').append(blank(false));
        }
        for (int i = Math.max(0, random.nextInt(5) - 2); i > 0; i--) {
            spoil(text);
        }
        text.setLength(Math.min(text.length(), 400));
        return text.toString();
    }

    private void spoil(StringBuilder text) {
        int at = random.nextInt(text.length() + 1);
        int end = Math.min(text.length(), at + 1 + random.nextInt(3));
        String snippet = SNIPPETS[random.nextInt(SNIPPETS.length)];
        switch (random.nextInt(4)) {
            case 0: text.delete(at, end); break;
            case 1: text.insert(at, snippet); break;
            case 2: text.replace(at, end, snippet); break;
            default: text.setLength(random.nextInt(3) == 0 ? at : text.length()); break;
        }
    }
}
