import java.io.IOException;
import java.nio.file.Files;
import java.nio.file.Path;
import java.util.List;
import java.util.regex.Matcher;
import java.util.regex.Pattern;

/** The walk in README.md answers as it says; it is read where .ci/run stands, the project's root. */
public final class ReadmeTest {
    private static final Checks CHECKS = new Checks("ReadmeTest");
    private static final Pattern ROW =
        Pattern.compile("\\| (?:`([^`]*)`)? \\| `(\\w+)\\((.*)\\)` \\| (-?\\w+) \\|");

    public static void main(String[] args) throws IOException, ReflectiveOperationException {
        List<String> lines = Files.readAllLines(Path.of("README.md"));
        int rows = 0;
        for (String line : lines) {
            Matcher row = ROW.matcher(line);
            if (row.matches()) {
                rows++;
                follow(row);
            }
        }
        CHECKS.due("a walk was found", rows > 20, true);
        CHECKS.due("resource 1 stands there", lines.contains(CHECKS.written(1)), true);
        CHECKS.end();
    }

    private static void follow(Matcher row) throws ReflectiveOperationException {
        if (row.group(1) != null) {
            CHECKS.say(row.group(1).replace("\\n", "\n"));
        }
        String call = row.group(2) + "(" + row.group(3) + ")";
        CHECKS.due("the row of " + call, answer(row.group(2), row.group(3)), wanted(row.group(4)));
    }

    private static int answer(String call, String arguments) {
        String[] words = arguments.split(", ");
        PeopleStore store = CHECKS.store();
        switch (call) {
            case "create": return store.create();
            case "replace": return store.replace(number(words, 0), number(words, 1));
            case "patch": return store.patch(number(words, 0), number(words, 1));
            case "remove": return store.remove(number(words, 0), number(words, 1));
            case "query":
                boolean down = words[1].equals("true");
                return store.query(number(words, 0), down, number(words, 2), number(words, 3));
            case "page": return store.page(number(words, 0));
            case "resources": return store.resources();
            case "version": return store.version(number(words, 0));
            case "length": return store.length(number(words, 0));
            case "letter": return store.letter(number(words, 0), number(words, 1));
            default: throw new IllegalStateException("no call " + call);
        }
    }

    private static int number(String[] words, int place) {
        return Integer.parseInt(words[place]);
    }

    /** A number, or one of the constants by its name. */
    private static int wanted(String word) throws ReflectiveOperationException {
        boolean named = Character.isLetter(word.charAt(0));
        return named ? PeopleStore.class.getField(word).getInt(null) : Integer.parseInt(word);
    }
}
