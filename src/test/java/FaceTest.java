import java.io.IOException;
import java.lang.reflect.Constructor;
import java.lang.reflect.Field;
import java.lang.reflect.Method;
import java.lang.reflect.Modifier;
import java.nio.file.Files;
import java.nio.file.Path;
import java.util.Set;
import java.util.TreeSet;
import java.util.regex.Matcher;
import java.util.regex.Pattern;

/** The face of the class, and those rules of LANGUAGE.md that can be seen without running it. */
public final class FaceTest {
    private static final Path SOURCE = Path.of("src/main/java/BuyersArm.java");
    private static final String[] METHODS = {
        "int write(int,long)", "int wipe()", "int fault()", "int market()", "int person(int,int)", "int counter(int,int)",
        "int barred(int,int)", "int plaster(int,int)", "int common(int)", "int buy(int,int,int)", "int undo()",
        "int sale(int,int)", "int truly(int,int,boolean)", "int cheapest(int,int)", "int cheapestBy(int,int,int)",
        "int exchange(int,int,int,int,int)", "int unchange()", "long ring(int,boolean)", "int ringAt(int,int)",
        "int come(int,int)", "int earned(int,int,int)", "int ask(int,int)", "int keeper(int,boolean)", "int losers(int)",
        "int fairest()", "int cut(int,int,boolean)", "int when(int,int,int,int)", "int held(int,int,int,int,int)",
        "int unheld()", "int mayBe()", "int arm(int,boolean)", "int keep(int)", "int again(int)", "int count(int)"};
    // Rules 3, 4, 6, 13, and what the page forbids. Of compare the library tells the sign alone, not that it is -1 or 1.
    private static final String[] BANNED = {"throw", "throws", "try", "catch", "synchronized", "assert", "double", "float", "volatile",
        "native", "Object", "Random", "Thread", "Exception", "Error", "Exact", "hashCode", "var", "this", "super", "static\\s*\\{",
        "Integer\\.compare", "Long\\.compare", "->", "::", "@", "System\\.(?!arraycopy)",
        "import (?!java\\.util\\.(Arrays|ArrayList|List);)"};

    private static final Check check = new Check();

    public static void main(String[] args) throws IOException {
        constants();
        methods();
        nothingElse();
        noNameTwice();
        bannedWords();
        sizes();
        check.end();
    }

    private static void constants() {
        check.due("UNKNOWN", BuyersArm.UNKNOWN, -1);
        check.due("BAD", BuyersArm.BAD, -2);
        check.due("LATE", BuyersArm.LATE, -3);
        check.due("FULL", BuyersArm.FULL, -4);
        check.due("NONE", BuyersArm.NONE, -9);
    }

    private static void methods() {
        Set<String> due = new TreeSet<>(Set.of(METHODS));
        Set<String> are = new TreeSet<>();
        for (Method m : BuyersArm.class.getDeclaredMethods()) {
            if (!Modifier.isPrivate(m.getModifiers())) {
                check.holds(m + " is public alone", m.getModifiers() == Modifier.PUBLIC);
                StringBuilder face = new StringBuilder(m.getReturnType() + " " + m.getName() + "(");
                for (Class<?> p : m.getParameterTypes()) {
                    face.append(face.charAt(face.length() - 1) == '(' ? "" : ",").append(p);
                }
                are.add(face + ")");
            }
        }
        check.holds("the methods are " + are, are.equals(due));
    }

    private static void nothingElse() {
        check.due("public and final", BuyersArm.class.getModifiers(), Modifier.PUBLIC | Modifier.FINAL);
        Set<String> open = new TreeSet<>();
        for (Field f : BuyersArm.class.getDeclaredFields()) {
            boolean isConstant = Modifier.isStatic(f.getModifiers());
            check.holds(f + " is final, if static", !isConstant || Modifier.isFinal(f.getModifiers()));
            if (!Modifier.isPrivate(f.getModifiers())) {
                open.add(f.getName());
            }
        }
        check.holds("open fields " + open, open.equals(new TreeSet<>(Set.of("UNKNOWN", "BAD", "LATE", "FULL", "NONE"))));
        Constructor<?>[] constructors = BuyersArm.class.getDeclaredConstructors();
        check.due("constructors", constructors.length, 1);
        check.due("its parameters", constructors[0].getParameterCount(), 0);
        check.due("it is public", constructors[0].getModifiers(), Modifier.PUBLIC);
        for (Class<?> c : BuyersArm.class.getDeclaredClasses()) {
            check.holds(c + " is static", Modifier.isStatic(c.getModifiers()));
            check.holds(c + " is not open", (c.getModifiers() & (Modifier.PUBLIC | Modifier.PROTECTED)) == 0);
            for (Field f : c.getDeclaredFields()) {
                check.holds(f + " is final, if static", !Modifier.isStatic(f.getModifiers()) || Modifier.isFinal(f.getModifiers()));
            }
        }
    }

    private static void noNameTwice() {
        Set<String> faces = new TreeSet<>();
        for (String m : METHODS) {
            faces.add(m.substring(m.indexOf(' ') + 1, m.indexOf('(')));
        }
        for (Method m : BuyersArm.class.getDeclaredMethods()) {
            check.holds(m + " bears a public name", Modifier.isPublic(m.getModifiers()) || !faces.contains(m.getName()));
        }
        for (Class<?> c : BuyersArm.class.getDeclaredClasses()) {
            for (Method m : c.getDeclaredMethods()) {
                check.holds(m + " bears a public name", !faces.contains(m.getName()));
                check.holds(m + " has seven parameters at most", m.getParameterCount() <= 7);
            }
        }
    }

    private static void bannedWords() throws IOException {
        String code = code();
        for (String word : BANNED) {
            String pattern = Character.isLetter(word.charAt(0)) ? "\\b" + word + "\\b" : word;
            Matcher m = Pattern.compile(pattern).matcher(code);
            check.holds("no " + word, !m.find());
        }
        check.holds("no Exact", !code.contains("Exact"));
        check.holds("no while without a counter", !code.contains("while"));
        // What a run makes is made in constructors alone: a call makes nothing.
        for (String line : code.split("\n")) {
            boolean isField = line.matches("\\s*(private )?(final )?\\w+(\\[\\])* \\w+ = .*");
            check.holds("made in a call: " + line, !line.contains("new ") || isField);
        }
    }

    private static void sizes() throws IOException {
        check.holds("some twelve classes", BuyersArm.class.getDeclaredClasses().length <= 11);
        int start = 0;
        String[] lines = code().split("\n");
        for (int i = 0; i < lines.length; i++) {
            if (lines[i].matches("\\s+[\\w\\[\\] ]+\\(.*\\) \\{") && !lines[i].trim().matches("(if|for|switch|else|\\} else).*")) {
                start = i;
            }
            if (lines[i].matches("( {4}| {8})\\}")) {
                check.holds("a short method at line " + (start + 1), i - start <= 61);
            }
        }
        for (int i = 0; i < lines.length; i++) {
            boolean isPlain = lines[i].chars().allMatch(sign -> sign >= 32 && sign < 127);
            check.holds("plain signs in line " + (i + 1), isPlain);
        }
    }

    // The source without what its comments say.
    private static String code() throws IOException {
        String all = Files.readString(SOURCE);
        return all.replaceAll("(?s)/\\*.*?\\*/", "").replaceAll("//[^\n]*", "");
    }
}
