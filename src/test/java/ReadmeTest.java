import java.io.IOException;
import java.lang.reflect.Method;
import java.lang.reflect.Modifier;
import java.nio.file.Files;
import java.nio.file.Path;
import java.util.List;
import java.util.Set;
import java.util.TreeSet;
import java.util.regex.Matcher;
import java.util.regex.Pattern;

/** The examples of README.md: each call "x.name(..); // answer" answers so, and each call of the face is named there. */
public final class ReadmeTest {
    private static final Pattern EXAMPLE = Pattern.compile("x\\.(\\w+)\\((.*)\\); +// ([^ :]+): .*");
    private static final Pattern TEXT = Pattern.compile("text\\(x, \"(.*)\"\\)");
    private static final YearTrade x = new YearTrade();
    private static int wrong = 0;

    private static void fault(String what) {
        wrong++;
        System.out.println(what);
    }

    public static void main(String[] args) throws Exception {
        List<String> lines = Files.readAllLines(Path.of("README.md"));
        int examples = 0;
        for (String line : lines) {
            if (!line.startsWith("x.")) continue;
            examples++;
            example(line);
        }
        if (examples < 20) fault("README.md has " + examples + " examples");
        String readme = String.join("\n", lines);
        faceIsNamed(readme);
        if (!readme.contains(ownText())) fault("README.md feeds texts in another way than this test");
        if (wrong == 0) System.out.println(examples + " examples answer as README.md says");
        else System.exit(1);
    }

    private static void example(String line) throws Exception {
        Matcher parts = EXAMPLE.matcher(line);
        if (!parts.matches()) {
            fault("no answer is told: " + line);
            return;
        }
        Method call = method(parts.group(1));
        Object got = call.invoke(x, given(parts.group(2)));
        if (!String.valueOf(got).equals(parts.group(3))) fault(line + " answered " + got);
    }

    private static Method method(String name) {
        for (Method each : YearTrade.class.getMethods()) {
            if (each.getName().equals(name)) return each;
        }
        throw new IllegalArgumentException("no call " + name);
    }

    private static Object[] given(String row) {
        Matcher fed = TEXT.matcher(row);
        if (fed.matches()) return new Object[] {text(x, fed.group(1))};
        if (row.isEmpty()) return new Object[0];
        String[] words = row.split(", ");
        Object[] values = new Object[words.length];
        for (int i = 0; i < words.length; i++) values[i] = value(words[i]);
        return values;
    }

    private static Object value(String word) {
        if (word.equals("true") || word.equals("false")) return Boolean.valueOf(word);
        return Integer.decode(word);
    }

    // README.md bears this function word for word, so that what it tells its readers is what is run here.
    static int text(YearTrade x, String signs) {
        for (int at = 0; at < signs.length(); at += 20) {
            int[] five = new int[5];
            for (int i = 0; i < 20; i++) {
                five[i / 4] = five[i / 4] << 8 | (at + i < signs.length() ? signs.charAt(at + i) : 0);
            }
            x.feed(five[0], five[1], five[2], five[3], five[4]);
        }
        return signs.length();
    }

    private static void faceIsNamed(String readme) {
        Set<String> names = new TreeSet<>();
        for (Method each : YearTrade.class.getDeclaredMethods()) {
            if (Modifier.isPublic(each.getModifiers())) names.add(each.getName());
        }
        for (String name : names) {
            if (!Pattern.compile("`" + name + "(\\(\\))?`").matcher(readme).find()) fault("README.md does not name " + name);
        }
    }

    /** The function text() of this file, four blanks to the left. */
    private static String ownText() throws IOException {
        String own = Files.readString(Path.of("src/test/java/ReadmeTest.java"));
        int from = own.indexOf("    static int text(");
        int to = own.indexOf("\n    }\n", from) + "\n    }\n".length();
        return own.substring(from, to).replaceAll("(?m)^ {4}", "");
    }
}
