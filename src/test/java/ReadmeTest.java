import java.lang.reflect.Method;
import java.lang.reflect.Modifier;
import java.nio.file.Files;
import java.nio.file.Path;
import java.util.ArrayList;
import java.util.List;
import java.util.Set;
import java.util.TreeSet;
import java.util.regex.Matcher;
import java.util.regex.Pattern;
import java.util.stream.Collectors;
import java.util.stream.Stream;

/** What README.md says is so: its story is told again, and the calls and tests that it names are those that there are. */
public final class ReadmeTest {
    private static final Path README = Path.of("README.md");
    private static final Path TESTS = Path.of("src", "test", "java");
    private static final Pattern MADE = Pattern.compile("AlongsideLines x = new AlongsideLines\\(\\);");
    private static final Pattern FED = Pattern.compile("feed\\(x, \"([^\"]*)\"\\);");
    private static final Pattern CALL = Pattern.compile("x\\.(\\w+)\\(([^()]*)\\); +// (-?\\d+|[A-Z]+)\\b.*");
    private static final Checks checks = new Checks();

    public static void main(String[] args) throws Exception {
        String page = Files.readString(README);
        List<String> blocks = blocksOf(page);
        checks.due("pieces of Java", blocks.size(), 2);
        holds("the helper is the one the tests use", blocks.get(0).indent(4), Files.readString(TESTS.resolve("Checks.java")));
        tellStory(blocks.get(1));
        namesAreAll("calls", rowsBehind(page, "| calls |"), publicNames());
        namesAreAll("tests", rowsBehind(page, "| test |"), testNames());
        checks.end();
    }

    private static void holds(String what, String part, String whole) {
        checks.due(what, whole.contains(part) ? 1 : 0, 1);
    }

    private static List<String> blocksOf(String page) {
        List<String> blocks = new ArrayList<>();
        Matcher block = Pattern.compile("(?s)```java\n(.*?)```").matcher(page);
        while (block.find()) {
            blocks.add(block.group(1));
        }
        return blocks;
    }

    private static void tellStory(String story) throws Exception {
        AlongsideLines x = null;
        int calls = 0;
        for (String line : story.split("\n")) {
            Matcher fed = FED.matcher(line);
            Matcher call = CALL.matcher(line);
            if (MADE.matcher(line).matches()) {
                x = new AlongsideLines();
            } else if (fed.matches()) {
                Checks.feed(x, fed.group(1));
            } else if (call.matches()) {
                checks.due(line, answer(x, call.group(1), call.group(2)), number(call.group(3)));
                calls++;
            } else {
                checks.due("a line that is no call: " + line, line.isEmpty() ? 1 : 0, 1);
            }
        }
        checks.due("the story has calls", calls > 0 ? 1 : 0, 1);
    }

    private static long answer(AlongsideLines x, String name, String given) throws Exception {
        String[] words = given.isEmpty() ? new String[0] : given.split(", ");
        for (Method m : AlongsideLines.class.getMethods()) {
            if (m.getName().equals(name) && m.getParameterCount() == words.length) {
                Object[] values = new Object[words.length];
                for (int i = 0; i < words.length; i++) {
                    values[i] = (int) number(words[i].replace("AlongsideLines.", ""));
                }
                return ((Number) m.invoke(x, values)).longValue();
            }
        }
        throw new IllegalStateException("no such call: " + name);
    }

    private static long number(String word) throws Exception {
        return word.matches("[A-Z]+") ? AlongsideLines.class.getField(word).getInt(null) : Long.parseLong(word);
    }

    /** The names in the first column of the table whose head begins so. */
    private static Set<String> rowsBehind(String page, String head) {
        Set<String> names = new TreeSet<>();
        String table = page.substring(page.indexOf("\n" + head) + 1).split("\n\n")[0];
        for (String row : table.split("\n")) {
            Matcher name = Pattern.compile("`(\\w+)`").matcher(row.split("\\|")[1]);
            while (name.find()) {
                names.add(name.group(1));
            }
        }
        return names;
    }

    private static Set<String> publicNames() {
        Set<String> names = new TreeSet<>();
        for (Method m : AlongsideLines.class.getDeclaredMethods()) {
            if (Modifier.isPublic(m.getModifiers())) {
                names.add(m.getName());
            }
        }
        return names;
    }

    private static Set<String> testNames() throws Exception {
        try (Stream<Path> files = Files.list(TESTS)) {
            return files.map(f -> f.getFileName().toString()).filter(f -> f.endsWith("Test.java"))
                .map(f -> f.substring(0, f.length() - ".java".length())).collect(Collectors.toCollection(TreeSet::new));
        }
    }

    private static void namesAreAll(String what, Set<String> told, Set<String> are) {
        checks.due(what + " told " + told + ", there are " + are, told.equals(are) ? 1 : 0, 1);
    }
}
