import java.io.IOException;
import java.lang.reflect.Field;
import java.lang.reflect.Member;
import java.lang.reflect.Method;
import java.lang.reflect.Modifier;
import java.nio.file.Files;
import java.nio.file.Path;
import java.util.ArrayList;
import java.util.Arrays;
import java.util.List;
import java.util.Set;
import java.util.TreeSet;
import java.util.regex.Matcher;
import java.util.regex.Pattern;

/** Those rules of LANGUAGE.md that can be looked at from outside: the face, words that may not stand, lengths. */
public final class LanguageTest {
    private static final String FACE = "check clashes common count days deals dealtIn deeds feed forged givenBack inOrder judged keep law"
        + " linked may person personIs regime ring seed share sold taught tried undo worth year yearIs years";
    private static int wrong = 0;

    private static void fault(String what) {
        wrong++;
        System.out.println(what);
    }

    public static void main(String[] args) throws IOException {
        face();
        List<Class<?>> classes = new ArrayList<>(List.of(YearTrade.class));
        classes.addAll(Arrays.asList(YearTrade.class.getDeclaredClasses()));
        if (classes.size() > 12) fault("rule 11: " + classes.size() + " classes");
        for (Class<?> c : classes) members(c);
        List<String> lines = Files.readAllLines(Path.of("src/main/java/YearTrade.java"));
        for (int i = 0; i < lines.size(); i++) line(i + 1, lines.get(i));
        lengths(lines);
        System.out.println(wrong == 0 ? "the rules are kept" : wrong + " faults");
        if (wrong != 0) System.exit(1);
    }

    private static void face() {
        Set<String> open = new TreeSet<>();
        for (Method m : YearTrade.class.getDeclaredMethods()) {
            if (Modifier.isPublic(m.getModifiers())) open.add(m.getName());
            else if (!Modifier.isPrivate(m.getModifiers())) fault("rule 1: " + m);
        }
        if (!String.join(" ", open).equals(FACE)) fault("rule 1: the face is " + open);
        for (Field f : YearTrade.class.getDeclaredFields()) {
            if (!Modifier.isPrivate(f.getModifiers()) && !f.getName().equals("NONE")) fault("rule 1: " + f);
        }
    }

    private static void members(Class<?> c) {
        if (c != YearTrade.class && !Modifier.isStatic(c.getModifiers())) fault("rule 2: " + c);
        int fields = 0;
        for (Field f : c.getDeclaredFields()) {
            if (!Modifier.isStatic(f.getModifiers())) fields++;
            else if (!Modifier.isFinal(f.getModifiers())) fault("rule 5: " + f);
        }
        if (fields > 20) fault("rule 11: " + fields + " fields in " + c);
        for (Method m : c.getDeclaredMethods()) {
            if (m.getParameterCount() > 7) fault("rule 11: " + m);
            if (c != YearTrade.class && named(m)) fault("rule 1: " + m);
            if (c == YearTrade.class && Modifier.isPrivate(m.getModifiers()) && named(m)) fault("rule 1: " + m);
        }
    }

    private static boolean named(Member m) {
        return Arrays.asList(FACE.split(" ")).contains(m.getName());
    }

    private static void line(int number, String line) {
        if (!line.chars().allMatch(sign -> sign > 0 && sign < 127)) fault("rule 4, line " + number + ": " + line);
        String code = line.replaceAll("'[^']'", "0").replaceAll("\"[^\"]*\"", "0");
        if (code.trim().matches("(/\\*|\\*|//).*")) return;
        Matcher imported = Pattern.compile("^import (.*);$").matcher(code);
        if (imported.find() && !imported.group(1).matches("java\\.util\\.(ArrayList|List|Arrays|Iterator)")) fault("rule 4, line " + number + ": " + line);
        String words = "\\b(throw|throws|try|catch|finally|synchronized|assert|package|hashCode|var)\\b|::";
        if (Pattern.compile(words).matcher(code).find()) fault("rules 1 to 6, line " + number + ": " + line);
        if (code.contains("->") && !code.matches("\\s*(case .*|default) ->.*")) fault("rule 2, line " + number + ": " + line);
        Matcher library = Pattern.compile("\\b(Integer|Long|Math|System|String|Arrays|Thread|Double|Float)\\.(\\w+)").matcher(code);
        while (library.find()) {
            if (!List.of("bitCount", "max", "min", "abs", "compare", "floorDiv", "floorMod", "MAX_VALUE", "MIN_VALUE",
                "arraycopy", "copyOf", "copyOfRange", "fill").contains(library.group(2))) fault("rule 4, line " + number + ": " + line);
        }
    }

    private static void lengths(List<String> lines) {
        int from = -1;
        for (int i = 0; i < lines.size(); i++) {
            String line = lines.get(i);
            if (line.matches(" {4}( {4})?[^ /*].*\\(.*\\) \\{")) from = i;
            if (from >= 0 && line.matches(" {4}( {4})?}")) {
                if (i - from > 60) fault("rule 11: long, line " + from);
                from = -1;
            }
        }
    }
}
