import java.io.IOException;
import java.lang.reflect.Method;
import java.lang.reflect.Modifier;
import java.nio.file.DirectoryStream;
import java.nio.file.Files;
import java.nio.file.Path;
import java.util.Map;
import java.util.Set;
import java.util.TreeSet;
import java.util.regex.Matcher;
import java.util.regex.Pattern;

/** README.md: its calls answer as it says, it shows every call, and its table has every test. */
public final class ReadmeTest {
    private static final Pattern SHOWN = Pattern.compile("x\\.(\\w+)\\((.*)\\); +// (-?\\d+|[A-Z]+): .+");
    private static final Map<String, Integer> NAMES = Map.of("UNKNOWN", BuyersArm.UNKNOWN, "BAD", BuyersArm.BAD,
        "LATE", BuyersArm.LATE, "FULL", BuyersArm.FULL, "NONE", BuyersArm.NONE);

    private static final Check check = new Check();

    public static void main(String[] args) throws IOException {
        String readme = Files.readString(Path.of("README.md"));
        Set<String> shown = calls(readme);
        for (Method m : BuyersArm.class.getDeclaredMethods()) {
            if (Modifier.isPublic(m.getModifiers())) {
                check.holds("README shows " + m.getName(), shown.contains(m.getName()));
            }
        }
        table(readme);
        check.end();
    }

    private static Set<String> calls(String readme) {
        Set<String> shown = new TreeSet<>();
        BuyersArm x = new BuyersArm();
        for (String line : readme.split("\n")) {
            if (line.startsWith("x.")) {
                Matcher m = SHOWN.matcher(line);
                boolean isCall = m.matches();
                check.holds("a call and its answer: " + line, isCall);
                if (isCall) {
                    shown.add(m.group(1));
                    check.due(line, new Call(m.group(1), told(m.group(2))).on(x), answer(m.group(3)));
                }
            }
        }
        return shown;
    }

    private static long answer(String word) {
        return NAMES.containsKey(word) ? NAMES.get(word) : Long.parseLong(word);
    }

    private static Object[] told(String inner) {
        if (inner.isEmpty()) {
            return new Object[0];
        }
        String[] words = inner.split(", ");
        Object[] told = new Object[words.length];
        for (int i = 0; i < words.length; i++) {
            told[i] = one(words[i]);
        }
        return told;
    }

    private static Object one(String word) {
        if (word.equals("true") || word.equals("false")) {
            return word.equals("true");
        }
        if (word.endsWith("L")) {
            return Long.decode(word.substring(0, word.length() - 1));
        }
        return Integer.parseInt(word);
    }

    private static void table(String readme) throws IOException {
        try (DirectoryStream<Path> tests = Files.newDirectoryStream(Path.of("src/test/java"), "*Test.java")) {
            for (Path test : tests) {
                String name = test.getFileName().toString().replace(".java", "");
                check.holds("README's table has " + name, readme.contains("\n| `" + name + "` |"));
            }
        }
    }
}
