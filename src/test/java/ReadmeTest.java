import java.io.IOException;
import java.nio.file.Files;
import java.nio.file.Path;
import java.util.List;

/** The examples of README.md, one after the other on one object: each answers as the page says. */
final class ReadmeTest {
    private static final String LAND = "crossing bridge 0 1 3; crossing ford 1 2 2; crossing gate 2 0 1;"
        + " crossing ferry 0 2 6; carrier 0 1; carrier 1 0; load 0 2; load 1 0;";

    private final LadenEmpty x = new LadenEmpty();
    private int done = 0;

    public static void main(String[] args) throws IOException {
        List<String> lines = Files.readAllLines(Path.of("README.md"));
        ReadmeTest page = new ReadmeTest();
        boolean isJava = false;
        for (int i = 0; i < lines.size(); i++) {
            String line = lines.get(i);
            if (line.startsWith("```")) {
                isJava = line.equals("```java");
            } else if (isJava && line.startsWith("tell(") && !line.endsWith(";") && !line.contains("//")) {
                i++;
                page.told(line + lines.get(i));
            } else if (isJava && line.startsWith("tell(")) {
                page.told(line);
            } else if (isJava && line.startsWith("x.")) {
                page.called(line);
            }
        }
        Due.due("README.md: examples, at least", Math.min(page.done, 49), 49);
        Due.end();
    }

    private static int answerIn(String line) {
        return Integer.parseInt(line.replaceFirst(".*// (-?[0-9]+)(:.*)?$", "$1"));
    }

    // The text stands between the first quotation mark and the last, at times in two parts.
    private void told(String line) {
        String text = line.substring(line.indexOf('"') + 1, line.lastIndexOf('"')).replaceAll("\" *\\+ *\"", "");
        Due.due("README.md: " + line, Due.tell(x, text), answerIn(line));
        Due.due("README.md: the land of all examples", done > 0 || text.equals(LAND) ? 1 : 0, 1);
        done++;
    }

    private void called(String line) {
        String name = line.substring(2, line.indexOf('('));
        String inside = line.substring(line.indexOf('(') + 1, line.indexOf(')'));
        String[] parts = inside.isEmpty() ? new String[0] : inside.split(", ");
        Class<?>[] types = new Class<?>[parts.length];
        Object[] numbers = new Object[parts.length];
        for (int i = 0; i < parts.length; i++) {
            types[i] = int.class;
            numbers[i] = Integer.valueOf(parts[i]);
        }
        try {
            int answer = (Integer) LadenEmpty.class.getMethod(name, types).invoke(x, numbers);
            Due.due("README.md: " + line, answer, answerIn(line));
        } catch (ReflectiveOperationException e) {
            Due.due("README.md: " + line + " is no call", 0, 1);
        }
        done++;
    }
}
