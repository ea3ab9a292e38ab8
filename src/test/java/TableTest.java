import java.nio.file.Files;
import java.nio.file.Path;
import java.util.Arrays;
import java.util.Set;
import java.util.TreeSet;
import java.util.regex.Matcher;
import java.util.regex.Pattern;

/** The tests that SENTENCES.md names exist and are run, and it names some for each promise. */
public final class TableTest {
    public static void main(String[] args) throws Exception {
        Set<Integer> promises = new TreeSet<>();
        for (String row : Files.readAllLines(Path.of("src/test/SENTENCES.md"))) {
            Matcher name = Pattern.compile("`(\\w+Test)\\.(\\w+|\\*)`").matcher(row);
            boolean named = false;
            while (name.find()) {
                named = true;
                exists(name.group(1), name.group(2));
            }
            boolean isSentence = row.startsWith("| ") && !row.startsWith("| ---") && !row.matches("\\| (sentence|rule) .*");
            Due.yes("a test is named: " + row, named || !isSentence);
            Matcher number = Pattern.compile("\\| (\\d+) [A-Za-z0(].*").matcher(row);
            if (number.matches()) {
                promises.add(Integer.parseInt(number.group(1)));
            }
        }
        for (int promise = 1; promise <= 31; promise++) {
            Due.yes("promise " + promise, promises.contains(promise));
        }
        Due.end();
    }

    private static void exists(String test, String method) throws Exception {
        String text = Files.readString(Path.of("src/test/java/" + test + ".java"));
        boolean declared = Arrays.stream(Class.forName(test).getDeclaredMethods()).anyMatch(m -> m.getName().equals(method));
        boolean called = Pattern.compile("\\n {8,}" + Pattern.quote(method) + "\\(.*\\);").matcher(text).find();
        Due.yes(test + "." + method, method.equals("*") || declared && called);
    }
}
