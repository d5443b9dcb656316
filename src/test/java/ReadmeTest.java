import java.io.IOException;
import java.nio.charset.StandardCharsets;
import java.nio.file.Files;
import java.nio.file.Path;
import java.util.regex.Matcher;
import java.util.regex.Pattern;

/** README.md's own calls answer what it says behind each of them, and its texts can be read and run. */
public final class ReadmeTest {
    private static final Pattern CALL = Pattern.compile("^(?:int \\w+ = )?street\\.(\\w+)\\((.*)\\); +// (-?\\d+)");

    private ReadmeTest() {
    }

    public static void main(String[] args) throws IOException {
        String page = Files.readString(Path.of("README.md"), StandardCharsets.UTF_8);
        calls(block(page, "```java\n"));
        texts(block(page, "```text\n"));
        Check.end();
    }

    private static String[] block(String page, String opening) {
        int start = page.indexOf(opening);
        int stop = page.indexOf("```", start + opening.length());
        Check.due("a block of README.md that begins with " + opening.trim(), start >= 0 && stop > start ? 1 : 0, 1);
        return start < 0 || stop < 0 ? new String[0] : page.substring(start + opening.length(), stop).split("\n");
    }

    private static void calls(String[] lines) {
        PawnedHours street = new PawnedHours();
        int asked = 0;
        for (String line : lines) {
            Matcher m = CALL.matcher(line);
            if (m.find()) {
                asked++;
                Check.due("README.md: " + line, Calls.ofClass(street, m.group(1), numbers(m.group(2))), Long.parseLong(m.group(3)));
            }
        }
        Check.due("calls of README.md, all but the first line's", asked, lines.length - 1);
    }

    private static int[] numbers(String told) {
        String[] each = told.isBlank() ? new String[0] : told.replace("1 << bob", "2").replace("ann", "0").split(", ");
        int[] numbers = new int[each.length];
        for (int i = 0; i < each.length; i++) {
            numbers[i] = Integer.parseInt(each[i]);
        }
        return numbers;
    }

    private static void texts(String[] lines) {
        PawnedHours street = Check.withPeople(2);
        Check.run(street, "put 0 3 1 2 = 0", "put 0 3 2 40 = 1");
        Check.due("texts of README.md", lines.length, 2);
        Check.law(street, lines[0], 0);
        Check.run(street, "force 0 = -1");
        Check.orders(street, lines[1], 11);
        Check.run(street, "of 0 0 = 27", "hour 0 3 3 = 0", "hour 0 11 8 = 1");
    }
}
